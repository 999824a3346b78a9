/-! the large constructors -/
section CN2
variable {w : jWD} {l : Launch} {n : Nat} {I J : Nat → Nat → Int32} {L M : Nat → Nat → Int64} {R : Nat → Nat → Option Nat} {T : Nat → Nat → Int32}
set_option maxHeartbeats 2000000 in
set_option maxRecDepth 40000 in
theorem gX1_init_1008 (hW : jWok w l) (hT : bgT T) (hz : Zr 1008 I L R) : jCt w l mX1_init 5 15 913 [.ref 1008] (1009, shN 1009, I, L, R) (fun v t => v = none ∧ ∃ J M R', t = (1024, shN 1024, J, M, R') ∧ (∀ a k, a < 1008 → J a k = I a k ∧ M a k = L a k ∧ R' a k = R a k) ∧ Zr 1024 J M R' ∧ RSn R' 1008 1024 ∧ CIs J M 1008 T 6 4 0 0) (fun _ _ => False) := by
  refine jCt_of hW (by decide) rfl (Nat.le_of_ble_eq_true rfl) ?_
  have hRS : RSn (upR (upR (upR (upR (upR (upR (upR (upR (upR (upR (upR (upR (upR (upR (upR R 1009 2 (some 1010)) 1009 6 (some 1011)) 1009 14 (some 1012)) 1008 0 (some 1009)) 1013 0 (some 1014)) 1013 1 (some 1015)) 1008 1 (some 1013)) 1008 2 (some 1016)) 1008 8 (some 1017)) 1016 0 (some 1018)) 1016 1 (some 1019)) 1016 2 (some 1020)) 1016 3 (some 1021)) 1016 4 (some 1022)) 1016 5 (some 1023)) 1008 1024 := by
    intro a k x h1 h2 hx
    have ha : a = 1008 ∨ a = 1009 ∨ a = 1010 ∨ a = 1011 ∨ a = 1012 ∨ a = 1013 ∨ a = 1014 ∨ a = 1015 ∨ a = 1016 ∨ a = 1017 ∨ a = 1018 ∨ a = 1019 ∨ a = 1020 ∨ a = 1021 ∨ a = 1022 ∨ a = 1023 := by omega
    rcases ha with rfl | rfl | rfl | rfl | rfl | rfl | rfl | rfl | rfl | rfl | rfl | rfl | rfl | rfl | rfl | rfl
    · replace hx : List.lookup k [(0, 1009), (1, 1013), (2, 1016), (8, 1017)] = some x := hx
      rcases lk_c hx with ⟨rfl, rfl⟩ | hx
      · rfl
      rcases lk_c hx with ⟨rfl, rfl⟩ | hx
      · rfl
      rcases lk_c hx with ⟨rfl, rfl⟩ | hx
      · rfl
      rcases lk_c hx with ⟨rfl, rfl⟩ | hx
      · rfl
      exact (lk_n hx).elim
    · replace hx : List.lookup k [(2, 1010), (6, 1011), (14, 1012)] = some x := hx
      rcases lk_c hx with ⟨rfl, rfl⟩ | hx
      · rfl
      rcases lk_c hx with ⟨rfl, rfl⟩ | hx
      · rfl
      rcases lk_c hx with ⟨rfl, rfl⟩ | hx
      · rfl
      exact (lk_n hx).elim
    · exact (lk_n (k := k) (x := x) hx).elim
    · exact (lk_n (k := k) (x := x) hx).elim
    · exact (lk_n (k := k) (x := x) hx).elim
    · replace hx : List.lookup k [(0, 1014), (1, 1015)] = some x := hx
      rcases lk_c hx with ⟨rfl, rfl⟩ | hx
      · rfl
      rcases lk_c hx with ⟨rfl, rfl⟩ | hx
      · rfl
      exact (lk_n hx).elim
    · exact (lk_n (k := k) (x := x) hx).elim
    · exact (lk_n (k := k) (x := x) hx).elim
    · replace hx : List.lookup k [(0, 1018), (1, 1019), (2, 1020), (3, 1021), (4, 1022), (5, 1023)] = some x := hx
      rcases lk_c hx with ⟨rfl, rfl⟩ | hx
      · rfl
      rcases lk_c hx with ⟨rfl, rfl⟩ | hx
      · rfl
      rcases lk_c hx with ⟨rfl, rfl⟩ | hx
      · rfl
      rcases lk_c hx with ⟨rfl, rfl⟩ | hx
      · rfl
      rcases lk_c hx with ⟨rfl, rfl⟩ | hx
      · rfl
      rcases lk_c hx with ⟨rfl, rfl⟩ | hx
      · rfl
      exact (lk_n hx).elim
    · exact (lk_n (k := k) (x := x) hx).elim
    · exact (lk_n (k := k) (x := x) hx).elim
    · exact (lk_n (k := k) (x := x) hx).elim
    · exact (lk_n (k := k) (x := x) hx).elim
    · exact (lk_n (k := k) (x := x) hx).elim
    · exact (lk_n (k := k) (x := x) hx).elim
    · exact (lk_n (k := k) (x := x) hx).elim
  refine jx_aload_n dX1_init_0 rfl ?_
  refine jx_objInit dX1_init_1 mlX1_3 oi_in oi_co (Nat.le_of_ble_eq_true rfl) ?_
  refine jx_aload_n dX1_init_4 rfl ?_
  refine jx_new (ci := 8) (r := (RX8, TX8, 15)) dX1_init_5 clX1_9 rfl jclX8 itX8 iiX8 rfl (by decide) (fun k => hz _ (by decide) k) (by decide) (by decide) ?_
  refine jx_dup dX1_init_8 rfl ?_
  refine jx_invIN (as := []) dX1_init_9 mlX1_11 okX8_init inX8_init rfl rfl rfl (by decide) (by decide) (by decide) (Nat.le_of_ble_eq_true rfl) (gX8_init_1009 (I := I) (L := L) (R := R) hW (fun a ha k => hz a (by omega) k)) (fun _ _ h => h) (fun v9 t9 hq9 => ?_)
  obtain ⟨rfl, rfl⟩ := hq9
  refine jx_putF (ci := 1) (k := 0) dX1_init_12 rfl jclX1 (by decide) (jm2 55 rfl) ((shN_lt (by decide)).trans rfl) rfl rfl rfl rfl ?_
  refine jx_aload_n dX1_init_15 rfl ?_
  refine jx_new (ci := 6) (r := (RX6, TX6, 3)) dX1_init_16 clX1_18 rfl jclX6 itX6 iiX6 rfl (by decide) (fun k => hz _ (by decide) k) (by decide) (by decide) ?_
  refine jx_dup dX1_init_19 rfl ?_
  refine jx_invIN (as := []) dX1_init_20 mlX1_20 okX6_init inX6_init rfl rfl rfl (by decide) (by decide) (by decide) (Nat.le_of_ble_eq_true rfl) (gX6_init_1013 (I := I) (L := L) (R := (upR (upR (upR (upR R 1009 2 (some 1010)) 1009 6 (some 1011)) 1009 14 (some 1012)) 1008 0 (some 1009))) hW (fun a ha k => by have q := hz a (by omega) k; refine ⟨q.1, q.2.1, ?_⟩; rw [upR_n (show ¬ (a = 1008 ∧ k = 0) by omega), upR_n (show ¬ (a = 1009 ∧ k = 14) by omega), upR_n (show ¬ (a = 1009 ∧ k = 6) by omega), upR_n (show ¬ (a = 1009 ∧ k = 2) by omega)]; exact q.2.2)) (fun _ _ h => h) (fun v20 t20 hq20 => ?_)
  obtain ⟨rfl, rfl⟩ := hq20
  refine jx_putF (ci := 1) (k := 1) dX1_init_23 rfl jclX1 (by decide) (jm2 59 rfl) ((shN_lt (by decide)).trans rfl) rfl rfl rfl rfl ?_
  refine jx_aload_n dX1_init_26 rfl ?_
  refine jx_bipush (v := 6) dX1_init_27 (by decide) ?_
  refine jx_anew (t := 5) (m := 6) (C := "EbbIsland$Party") dX1_init_29 clX1_25 (jm1 235 rfl) rfl (by decide) rfl (by decide) (fun k => hz _ (by decide) k) (by decide) (by decide) ?_
  refine jx_putF (ci := 1) (k := 2) dX1_init_32 rfl jclX1 (by decide) (jm2 62 rfl) ((shN_lt (by decide)).trans rfl) rfl rfl rfl rfl ?_
  refine jx_aload_n dX1_init_35 rfl ?_
  refine jx_iconst (v := 4) dX1_init_36 (by decide) ?_
  refine jx_newarr (t := 1) (m := 4) dX1_init_37 ac_int rfl (by decide) rfl (by decide) (fun k => hz _ (by decide) k) (by decide) (by decide) ?_
  refine jx_putF (ci := 1) (k := 8) dX1_init_39 rfl jclX1 (by decide) (jm2 87 rfl) ((shN_lt (by decide)).trans rfl) rfl rfl rfl rfl ?_
  refine jx_iconst (v := 0) dX1_init_42 (by decide) ?_
  refine jx_istore_n dX1_init_43 rfl (by decide) ?_
  refine jx_iload_n dX1_init_44 rfl ?_
  refine jx_bipush (v := 6) dX1_init_45 (by decide) ?_
  refine jx_icmpN_ge (a := 0) (b := 6) 69 dX1_init_47 (by decide) (by decide) (by decide) (fun h47 => absurd h47 (by decide)) (fun h47 => ?_)
  refine jx_aload_n dX1_init_50 rfl ?_
  refine jx_getR dX1_init_51 flX1_27 ((shN_lt (by decide)).trans rfl) rfl (rfl) ?_
  refine jx_iload_n dX1_init_54 rfl ?_
  refine jx_new (ci := 3) (r := (RX3, TX3, 6)) dX1_init_55 clX1_25 rfl jclX3 itX3 iiX3 rfl (by decide) (fun k => hz _ (by decide) k) (by decide) (by decide) ?_
  refine jx_dup dX1_init_58 rfl ?_
  refine jx_invIN (as := []) dX1_init_59 mlX1_35 okX3_init inX3_init rfl rfl rfl (by decide) (by decide) (by decide) (Nat.le_of_ble_eq_true rfl) (gX3_init hW _ _) (fun _ _ h => h) (fun v59 t59 hq59 => ?_)
  obtain ⟨rfl, rfl⟩ := hq59
  refine jx_aast5 0 dX1_init_62 ((shN_lt (by decide)).trans rfl) rfl (by decide) (by decide) ((shN_lt (by decide)).trans rfl) ?_
  refine jx_iinc dX1_init_63 rfl (v := 1) (by decide) (by decide) ?_
  refine jx_goto 44 dX1_init_66 (by decide) ?_
  refine jx_iload_n dX1_init_44 rfl ?_
  refine jx_bipush (v := 6) dX1_init_45 (by decide) ?_
  refine jx_icmpN_ge (a := 1) (b := 6) 69 dX1_init_47 (by decide) (by decide) (by decide) (fun h47 => absurd h47 (by decide)) (fun h47 => ?_)
  refine jx_aload_n dX1_init_50 rfl ?_
  refine jx_getR dX1_init_51 flX1_27 ((shN_lt (by decide)).trans rfl) rfl (rfl) ?_
  refine jx_iload_n dX1_init_54 rfl ?_
  refine jx_new (ci := 3) (r := (RX3, TX3, 6)) dX1_init_55 clX1_25 rfl jclX3 itX3 iiX3 rfl (by decide) (fun k => hz _ (by decide) k) (by decide) (by decide) ?_
  refine jx_dup dX1_init_58 rfl ?_
  refine jx_invIN (as := []) dX1_init_59 mlX1_35 okX3_init inX3_init rfl rfl rfl (by decide) (by decide) (by decide) (Nat.le_of_ble_eq_true rfl) (gX3_init hW _ _) (fun _ _ h => h) (fun v59 t59 hq59 => ?_)
  obtain ⟨rfl, rfl⟩ := hq59
  refine jx_aast5 1 dX1_init_62 ((shN_lt (by decide)).trans rfl) rfl (by decide) (by decide) ((shN_lt (by decide)).trans rfl) ?_
  refine jx_iinc dX1_init_63 rfl (v := 2) (by decide) (by decide) ?_
  refine jx_goto 44 dX1_init_66 (by decide) ?_
  refine jx_iload_n dX1_init_44 rfl ?_
  refine jx_bipush (v := 6) dX1_init_45 (by decide) ?_
  refine jx_icmpN_ge (a := 2) (b := 6) 69 dX1_init_47 (by decide) (by decide) (by decide) (fun h47 => absurd h47 (by decide)) (fun h47 => ?_)
  refine jx_aload_n dX1_init_50 rfl ?_
  refine jx_getR dX1_init_51 flX1_27 ((shN_lt (by decide)).trans rfl) rfl (rfl) ?_
  refine jx_iload_n dX1_init_54 rfl ?_
  refine jx_new (ci := 3) (r := (RX3, TX3, 6)) dX1_init_55 clX1_25 rfl jclX3 itX3 iiX3 rfl (by decide) (fun k => hz _ (by decide) k) (by decide) (by decide) ?_
  refine jx_dup dX1_init_58 rfl ?_
  refine jx_invIN (as := []) dX1_init_59 mlX1_35 okX3_init inX3_init rfl rfl rfl (by decide) (by decide) (by decide) (Nat.le_of_ble_eq_true rfl) (gX3_init hW _ _) (fun _ _ h => h) (fun v59 t59 hq59 => ?_)
  obtain ⟨rfl, rfl⟩ := hq59
  refine jx_aast5 2 dX1_init_62 ((shN_lt (by decide)).trans rfl) rfl (by decide) (by decide) ((shN_lt (by decide)).trans rfl) ?_
  refine jx_iinc dX1_init_63 rfl (v := 3) (by decide) (by decide) ?_
  refine jx_goto 44 dX1_init_66 (by decide) ?_
  refine jx_iload_n dX1_init_44 rfl ?_
  refine jx_bipush (v := 6) dX1_init_45 (by decide) ?_
  refine jx_icmpN_ge (a := 3) (b := 6) 69 dX1_init_47 (by decide) (by decide) (by decide) (fun h47 => absurd h47 (by decide)) (fun h47 => ?_)
  refine jx_aload_n dX1_init_50 rfl ?_
  refine jx_getR dX1_init_51 flX1_27 ((shN_lt (by decide)).trans rfl) rfl (rfl) ?_
  refine jx_iload_n dX1_init_54 rfl ?_
  refine jx_new (ci := 3) (r := (RX3, TX3, 6)) dX1_init_55 clX1_25 rfl jclX3 itX3 iiX3 rfl (by decide) (fun k => hz _ (by decide) k) (by decide) (by decide) ?_
  refine jx_dup dX1_init_58 rfl ?_
  refine jx_invIN (as := []) dX1_init_59 mlX1_35 okX3_init inX3_init rfl rfl rfl (by decide) (by decide) (by decide) (Nat.le_of_ble_eq_true rfl) (gX3_init hW _ _) (fun _ _ h => h) (fun v59 t59 hq59 => ?_)
  obtain ⟨rfl, rfl⟩ := hq59
  refine jx_aast5 3 dX1_init_62 ((shN_lt (by decide)).trans rfl) rfl (by decide) (by decide) ((shN_lt (by decide)).trans rfl) ?_
  refine jx_iinc dX1_init_63 rfl (v := 4) (by decide) (by decide) ?_
  refine jx_goto 44 dX1_init_66 (by decide) ?_
  refine jx_iload_n dX1_init_44 rfl ?_
  refine jx_bipush (v := 6) dX1_init_45 (by decide) ?_
  refine jx_icmpN_ge (a := 4) (b := 6) 69 dX1_init_47 (by decide) (by decide) (by decide) (fun h47 => absurd h47 (by decide)) (fun h47 => ?_)
  refine jx_aload_n dX1_init_50 rfl ?_
  refine jx_getR dX1_init_51 flX1_27 ((shN_lt (by decide)).trans rfl) rfl (rfl) ?_
  refine jx_iload_n dX1_init_54 rfl ?_
  refine jx_new (ci := 3) (r := (RX3, TX3, 6)) dX1_init_55 clX1_25 rfl jclX3 itX3 iiX3 rfl (by decide) (fun k => hz _ (by decide) k) (by decide) (by decide) ?_
  refine jx_dup dX1_init_58 rfl ?_
  refine jx_invIN (as := []) dX1_init_59 mlX1_35 okX3_init inX3_init rfl rfl rfl (by decide) (by decide) (by decide) (Nat.le_of_ble_eq_true rfl) (gX3_init hW _ _) (fun _ _ h => h) (fun v59 t59 hq59 => ?_)
  obtain ⟨rfl, rfl⟩ := hq59
  refine jx_aast5 4 dX1_init_62 ((shN_lt (by decide)).trans rfl) rfl (by decide) (by decide) ((shN_lt (by decide)).trans rfl) ?_
  refine jx_iinc dX1_init_63 rfl (v := 5) (by decide) (by decide) ?_
  refine jx_goto 44 dX1_init_66 (by decide) ?_
  refine jx_iload_n dX1_init_44 rfl ?_
  refine jx_bipush (v := 6) dX1_init_45 (by decide) ?_
  refine jx_icmpN_ge (a := 5) (b := 6) 69 dX1_init_47 (by decide) (by decide) (by decide) (fun h47 => absurd h47 (by decide)) (fun h47 => ?_)
  refine jx_aload_n dX1_init_50 rfl ?_
  refine jx_getR dX1_init_51 flX1_27 ((shN_lt (by decide)).trans rfl) rfl (rfl) ?_
  refine jx_iload_n dX1_init_54 rfl ?_
  refine jx_new (ci := 3) (r := (RX3, TX3, 6)) dX1_init_55 clX1_25 rfl jclX3 itX3 iiX3 rfl (by decide) (fun k => hz _ (by decide) k) (by decide) (by decide) ?_
  refine jx_dup dX1_init_58 rfl ?_
  refine jx_invIN (as := []) dX1_init_59 mlX1_35 okX3_init inX3_init rfl rfl rfl (by decide) (by decide) (by decide) (Nat.le_of_ble_eq_true rfl) (gX3_init hW _ _) (fun _ _ h => h) (fun v59 t59 hq59 => ?_)
  obtain ⟨rfl, rfl⟩ := hq59
  refine jx_aast5 5 dX1_init_62 ((shN_lt (by decide)).trans rfl) rfl (by decide) (by decide) ((shN_lt (by decide)).trans rfl) ?_
  refine jx_iinc dX1_init_63 rfl (v := 6) (by decide) (by decide) ?_
  refine jx_goto 44 dX1_init_66 (by decide) ?_
  refine jx_iload_n dX1_init_44 rfl ?_
  refine jx_bipush (v := 6) dX1_init_45 (by decide) ?_
  refine jx_icmpN_ge (a := 6) (b := 6) 69 dX1_init_47 (by decide) (by decide) (by decide) (fun h47 => ?_) (fun h47 => absurd h47 (by decide))
  refine jx_aload_n dX1_init_69 rfl ?_
  refine jx_invV (a := 1008) (ci := 1) (r := (RX1, TX1, 9)) (as := []) dX1_init_70 mlX1_36 okX1_clear viX1_clear rfl ((shN_lt (N := 1024) (a := 1008) (by decide)).trans rfl) rfl rfl rfl (by decide) (Nat.zero_le _) (Nat.zero_le _) (Nat.le_of_ble_eq_true rfl) (gX1_clear (h := 1008) (T := T) hW hRS (by decide) (by decide) hT) (fun v70 t70 hq70 => ?_) (fun _ _ h => h.elim)
  obtain ⟨rfl, J, M, rfl, a1, a2, c1⟩ := hq70
  refine jx_aload_n dX1_init_73 rfl ?_
  refine jx_getR dX1_init_74 flX1_12 ((shN_lt (by decide)).trans rfl) rfl (rfl) ?_
  refine jx_invV (a := 1009) (ci := 8) (r := (RX8, TX8, 15)) (as := []) dX1_init_77 mlX1_39 okX8_settle viX8_settle rfl ((shN_lt (N := 1024) (a := 1009) (by decide)).trans rfl) rfl rfl rfl (by decide) (Nat.zero_le _) (Nat.zero_le _) (Nat.le_of_ble_eq_true rfl) (gX8_settle (h := 1008) hW hRS (by decide) (by decide)) (fun v77 t77 hq77 => ?_) (fun _ _ h => h.elim)
  obtain ⟨rfl, M2, lim, rfl, m1, l1, l2, l3, l4⟩ := hq77
  refine jx_vret dX1_init_80 rfl ?_
  refine ⟨rfl, J, M2, _, rfl, fun a k ha => ⟨a1 a k (Or.inl ha), (m1 a k (by omega)).trans (a2 a k (by omega)), ?_⟩, fun a ha k => ⟨?_, ?_, ?_⟩, hRS, CIs_of (by decide) c1 (BT_bg hT (hT.1 0 (by decide)) (hT.1 1 (by decide)) (by decide)) m1 l1 l2 l3 l4⟩
  · rw [upR_n (show ¬ (a = 1016 ∧ k = 5) by omega), upR_n (show ¬ (a = 1016 ∧ k = 4) by omega), upR_n (show ¬ (a = 1016 ∧ k = 3) by omega), upR_n (show ¬ (a = 1016 ∧ k = 2) by omega), upR_n (show ¬ (a = 1016 ∧ k = 1) by omega), upR_n (show ¬ (a = 1016 ∧ k = 0) by omega), upR_n (show ¬ (a = 1008 ∧ k = 8) by omega), upR_n (show ¬ (a = 1008 ∧ k = 2) by omega), upR_n (show ¬ (a = 1008 ∧ k = 1) by omega), upR_n (show ¬ (a = 1013 ∧ k = 1) by omega), upR_n (show ¬ (a = 1013 ∧ k = 0) by omega), upR_n (show ¬ (a = 1008 ∧ k = 0) by omega), upR_n (show ¬ (a = 1009 ∧ k = 14) by omega), upR_n (show ¬ (a = 1009 ∧ k = 6) by omega), upR_n (show ¬ (a = 1009 ∧ k = 2) by omega)]
  · rw [a1 a k (Or.inr ha)]; exact (hz a (by omega) k).1
  · rw [m1 a k (by omega), a2 a k (by omega)]; exact (hz a (by omega) k).2.1
  · rw [upR_n (show ¬ (a = 1016 ∧ k = 5) by omega), upR_n (show ¬ (a = 1016 ∧ k = 4) by omega), upR_n (show ¬ (a = 1016 ∧ k = 3) by omega), upR_n (show ¬ (a = 1016 ∧ k = 2) by omega), upR_n (show ¬ (a = 1016 ∧ k = 1) by omega), upR_n (show ¬ (a = 1016 ∧ k = 0) by omega), upR_n (show ¬ (a = 1008 ∧ k = 8) by omega), upR_n (show ¬ (a = 1008 ∧ k = 2) by omega), upR_n (show ¬ (a = 1008 ∧ k = 1) by omega), upR_n (show ¬ (a = 1013 ∧ k = 1) by omega), upR_n (show ¬ (a = 1013 ∧ k = 0) by omega), upR_n (show ¬ (a = 1008 ∧ k = 0) by omega), upR_n (show ¬ (a = 1009 ∧ k = 14) by omega), upR_n (show ¬ (a = 1009 ∧ k = 6) by omega), upR_n (show ¬ (a = 1009 ∧ k = 2) by omega)]; exact (hz a (by omega) k).2.2
set_option maxHeartbeats 2000000 in
set_option maxRecDepth 40000 in
theorem gX1_init_1024 (hW : jWok w l) (hT : bgT T) (hz : Zr 1024 I L R) : jCt w l mX1_init 5 15 913 [.ref 1024] (1025, shN 1025, I, L, R) (fun v t => v = none ∧ ∃ J M R', t = (1040, shN 1040, J, M, R') ∧ (∀ a k, a < 1024 → J a k = I a k ∧ M a k = L a k ∧ R' a k = R a k) ∧ Zr 1040 J M R' ∧ RSn R' 1024 1040 ∧ CIs J M 1024 T 6 4 0 0) (fun _ _ => False) := by
  refine jCt_of hW (by decide) rfl (Nat.le_of_ble_eq_true rfl) ?_
  have hRS : RSn (upR (upR (upR (upR (upR (upR (upR (upR (upR (upR (upR (upR (upR (upR (upR R 1025 2 (some 1026)) 1025 6 (some 1027)) 1025 14 (some 1028)) 1024 0 (some 1025)) 1029 0 (some 1030)) 1029 1 (some 1031)) 1024 1 (some 1029)) 1024 2 (some 1032)) 1024 8 (some 1033)) 1032 0 (some 1034)) 1032 1 (some 1035)) 1032 2 (some 1036)) 1032 3 (some 1037)) 1032 4 (some 1038)) 1032 5 (some 1039)) 1024 1040 := by
    intro a k x h1 h2 hx
    have ha : a = 1024 ∨ a = 1025 ∨ a = 1026 ∨ a = 1027 ∨ a = 1028 ∨ a = 1029 ∨ a = 1030 ∨ a = 1031 ∨ a = 1032 ∨ a = 1033 ∨ a = 1034 ∨ a = 1035 ∨ a = 1036 ∨ a = 1037 ∨ a = 1038 ∨ a = 1039 := by omega
    rcases ha with rfl | rfl | rfl | rfl | rfl | rfl | rfl | rfl | rfl | rfl | rfl | rfl | rfl | rfl | rfl | rfl
    · replace hx : List.lookup k [(0, 1025), (1, 1029), (2, 1032), (8, 1033)] = some x := hx
      rcases lk_c hx with ⟨rfl, rfl⟩ | hx
      · rfl
      rcases lk_c hx with ⟨rfl, rfl⟩ | hx
      · rfl
      rcases lk_c hx with ⟨rfl, rfl⟩ | hx
      · rfl
      rcases lk_c hx with ⟨rfl, rfl⟩ | hx
      · rfl
      exact (lk_n hx).elim
    · replace hx : List.lookup k [(2, 1026), (6, 1027), (14, 1028)] = some x := hx
      rcases lk_c hx with ⟨rfl, rfl⟩ | hx
      · rfl
      rcases lk_c hx with ⟨rfl, rfl⟩ | hx
      · rfl
      rcases lk_c hx with ⟨rfl, rfl⟩ | hx
      · rfl
      exact (lk_n hx).elim
    · exact (lk_n (k := k) (x := x) hx).elim
    · exact (lk_n (k := k) (x := x) hx).elim
    · exact (lk_n (k := k) (x := x) hx).elim
    · replace hx : List.lookup k [(0, 1030), (1, 1031)] = some x := hx
      rcases lk_c hx with ⟨rfl, rfl⟩ | hx
      · rfl
      rcases lk_c hx with ⟨rfl, rfl⟩ | hx
      · rfl
      exact (lk_n hx).elim
    · exact (lk_n (k := k) (x := x) hx).elim
    · exact (lk_n (k := k) (x := x) hx).elim
    · replace hx : List.lookup k [(0, 1034), (1, 1035), (2, 1036), (3, 1037), (4, 1038), (5, 1039)] = some x := hx
      rcases lk_c hx with ⟨rfl, rfl⟩ | hx
      · rfl
      rcases lk_c hx with ⟨rfl, rfl⟩ | hx
      · rfl
      rcases lk_c hx with ⟨rfl, rfl⟩ | hx
      · rfl
      rcases lk_c hx with ⟨rfl, rfl⟩ | hx
      · rfl
      rcases lk_c hx with ⟨rfl, rfl⟩ | hx
      · rfl
      rcases lk_c hx with ⟨rfl, rfl⟩ | hx
      · rfl
      exact (lk_n hx).elim
    · exact (lk_n (k := k) (x := x) hx).elim
    · exact (lk_n (k := k) (x := x) hx).elim
    · exact (lk_n (k := k) (x := x) hx).elim
    · exact (lk_n (k := k) (x := x) hx).elim
    · exact (lk_n (k := k) (x := x) hx).elim
    · exact (lk_n (k := k) (x := x) hx).elim
    · exact (lk_n (k := k) (x := x) hx).elim
  refine jx_aload_n dX1_init_0 rfl ?_
  refine jx_objInit dX1_init_1 mlX1_3 oi_in oi_co (Nat.le_of_ble_eq_true rfl) ?_
  refine jx_aload_n dX1_init_4 rfl ?_
  refine jx_new (ci := 8) (r := (RX8, TX8, 15)) dX1_init_5 clX1_9 rfl jclX8 itX8 iiX8 rfl (by decide) (fun k => hz _ (by decide) k) (by decide) (by decide) ?_
  refine jx_dup dX1_init_8 rfl ?_
  refine jx_invIN (as := []) dX1_init_9 mlX1_11 okX8_init inX8_init rfl rfl rfl (by decide) (by decide) (by decide) (Nat.le_of_ble_eq_true rfl) (gX8_init_1025 (I := I) (L := L) (R := R) hW (fun a ha k => hz a (by omega) k)) (fun _ _ h => h) (fun v9 t9 hq9 => ?_)
  obtain ⟨rfl, rfl⟩ := hq9
  refine jx_putF (ci := 1) (k := 0) dX1_init_12 rfl jclX1 (by decide) (jm2 55 rfl) ((shN_lt (by decide)).trans rfl) rfl rfl rfl rfl ?_
  refine jx_aload_n dX1_init_15 rfl ?_
  refine jx_new (ci := 6) (r := (RX6, TX6, 3)) dX1_init_16 clX1_18 rfl jclX6 itX6 iiX6 rfl (by decide) (fun k => hz _ (by decide) k) (by decide) (by decide) ?_
  refine jx_dup dX1_init_19 rfl ?_
  refine jx_invIN (as := []) dX1_init_20 mlX1_20 okX6_init inX6_init rfl rfl rfl (by decide) (by decide) (by decide) (Nat.le_of_ble_eq_true rfl) (gX6_init_1029 (I := I) (L := L) (R := (upR (upR (upR (upR R 1025 2 (some 1026)) 1025 6 (some 1027)) 1025 14 (some 1028)) 1024 0 (some 1025))) hW (fun a ha k => by have q := hz a (by omega) k; refine ⟨q.1, q.2.1, ?_⟩; rw [upR_n (show ¬ (a = 1024 ∧ k = 0) by omega), upR_n (show ¬ (a = 1025 ∧ k = 14) by omega), upR_n (show ¬ (a = 1025 ∧ k = 6) by omega), upR_n (show ¬ (a = 1025 ∧ k = 2) by omega)]; exact q.2.2)) (fun _ _ h => h) (fun v20 t20 hq20 => ?_)
  obtain ⟨rfl, rfl⟩ := hq20
  refine jx_putF (ci := 1) (k := 1) dX1_init_23 rfl jclX1 (by decide) (jm2 59 rfl) ((shN_lt (by decide)).trans rfl) rfl rfl rfl rfl ?_
  refine jx_aload_n dX1_init_26 rfl ?_
  refine jx_bipush (v := 6) dX1_init_27 (by decide) ?_
  refine jx_anew (t := 5) (m := 6) (C := "EbbIsland$Party") dX1_init_29 clX1_25 (jm1 235 rfl) rfl (by decide) rfl (by decide) (fun k => hz _ (by decide) k) (by decide) (by decide) ?_
  refine jx_putF (ci := 1) (k := 2) dX1_init_32 rfl jclX1 (by decide) (jm2 62 rfl) ((shN_lt (by decide)).trans rfl) rfl rfl rfl rfl ?_
  refine jx_aload_n dX1_init_35 rfl ?_
  refine jx_iconst (v := 4) dX1_init_36 (by decide) ?_
  refine jx_newarr (t := 1) (m := 4) dX1_init_37 ac_int rfl (by decide) rfl (by decide) (fun k => hz _ (by decide) k) (by decide) (by decide) ?_
  refine jx_putF (ci := 1) (k := 8) dX1_init_39 rfl jclX1 (by decide) (jm2 87 rfl) ((shN_lt (by decide)).trans rfl) rfl rfl rfl rfl ?_
  refine jx_iconst (v := 0) dX1_init_42 (by decide) ?_
  refine jx_istore_n dX1_init_43 rfl (by decide) ?_
  refine jx_iload_n dX1_init_44 rfl ?_
  refine jx_bipush (v := 6) dX1_init_45 (by decide) ?_
  refine jx_icmpN_ge (a := 0) (b := 6) 69 dX1_init_47 (by decide) (by decide) (by decide) (fun h47 => absurd h47 (by decide)) (fun h47 => ?_)
  refine jx_aload_n dX1_init_50 rfl ?_
  refine jx_getR dX1_init_51 flX1_27 ((shN_lt (by decide)).trans rfl) rfl (rfl) ?_
  refine jx_iload_n dX1_init_54 rfl ?_
  refine jx_new (ci := 3) (r := (RX3, TX3, 6)) dX1_init_55 clX1_25 rfl jclX3 itX3 iiX3 rfl (by decide) (fun k => hz _ (by decide) k) (by decide) (by decide) ?_
  refine jx_dup dX1_init_58 rfl ?_
  refine jx_invIN (as := []) dX1_init_59 mlX1_35 okX3_init inX3_init rfl rfl rfl (by decide) (by decide) (by decide) (Nat.le_of_ble_eq_true rfl) (gX3_init hW _ _) (fun _ _ h => h) (fun v59 t59 hq59 => ?_)
  obtain ⟨rfl, rfl⟩ := hq59
  refine jx_aast5 0 dX1_init_62 ((shN_lt (by decide)).trans rfl) rfl (by decide) (by decide) ((shN_lt (by decide)).trans rfl) ?_
  refine jx_iinc dX1_init_63 rfl (v := 1) (by decide) (by decide) ?_
  refine jx_goto 44 dX1_init_66 (by decide) ?_
  refine jx_iload_n dX1_init_44 rfl ?_
  refine jx_bipush (v := 6) dX1_init_45 (by decide) ?_
  refine jx_icmpN_ge (a := 1) (b := 6) 69 dX1_init_47 (by decide) (by decide) (by decide) (fun h47 => absurd h47 (by decide)) (fun h47 => ?_)
  refine jx_aload_n dX1_init_50 rfl ?_
  refine jx_getR dX1_init_51 flX1_27 ((shN_lt (by decide)).trans rfl) rfl (rfl) ?_
  refine jx_iload_n dX1_init_54 rfl ?_
  refine jx_new (ci := 3) (r := (RX3, TX3, 6)) dX1_init_55 clX1_25 rfl jclX3 itX3 iiX3 rfl (by decide) (fun k => hz _ (by decide) k) (by decide) (by decide) ?_
  refine jx_dup dX1_init_58 rfl ?_
  refine jx_invIN (as := []) dX1_init_59 mlX1_35 okX3_init inX3_init rfl rfl rfl (by decide) (by decide) (by decide) (Nat.le_of_ble_eq_true rfl) (gX3_init hW _ _) (fun _ _ h => h) (fun v59 t59 hq59 => ?_)
  obtain ⟨rfl, rfl⟩ := hq59
  refine jx_aast5 1 dX1_init_62 ((shN_lt (by decide)).trans rfl) rfl (by decide) (by decide) ((shN_lt (by decide)).trans rfl) ?_
  refine jx_iinc dX1_init_63 rfl (v := 2) (by decide) (by decide) ?_
  refine jx_goto 44 dX1_init_66 (by decide) ?_
  refine jx_iload_n dX1_init_44 rfl ?_
  refine jx_bipush (v := 6) dX1_init_45 (by decide) ?_
  refine jx_icmpN_ge (a := 2) (b := 6) 69 dX1_init_47 (by decide) (by decide) (by decide) (fun h47 => absurd h47 (by decide)) (fun h47 => ?_)
  refine jx_aload_n dX1_init_50 rfl ?_
  refine jx_getR dX1_init_51 flX1_27 ((shN_lt (by decide)).trans rfl) rfl (rfl) ?_
  refine jx_iload_n dX1_init_54 rfl ?_
  refine jx_new (ci := 3) (r := (RX3, TX3, 6)) dX1_init_55 clX1_25 rfl jclX3 itX3 iiX3 rfl (by decide) (fun k => hz _ (by decide) k) (by decide) (by decide) ?_
  refine jx_dup dX1_init_58 rfl ?_
  refine jx_invIN (as := []) dX1_init_59 mlX1_35 okX3_init inX3_init rfl rfl rfl (by decide) (by decide) (by decide) (Nat.le_of_ble_eq_true rfl) (gX3_init hW _ _) (fun _ _ h => h) (fun v59 t59 hq59 => ?_)
  obtain ⟨rfl, rfl⟩ := hq59
  refine jx_aast5 2 dX1_init_62 ((shN_lt (by decide)).trans rfl) rfl (by decide) (by decide) ((shN_lt (by decide)).trans rfl) ?_
  refine jx_iinc dX1_init_63 rfl (v := 3) (by decide) (by decide) ?_
  refine jx_goto 44 dX1_init_66 (by decide) ?_
  refine jx_iload_n dX1_init_44 rfl ?_
  refine jx_bipush (v := 6) dX1_init_45 (by decide) ?_
  refine jx_icmpN_ge (a := 3) (b := 6) 69 dX1_init_47 (by decide) (by decide) (by decide) (fun h47 => absurd h47 (by decide)) (fun h47 => ?_)
  refine jx_aload_n dX1_init_50 rfl ?_
  refine jx_getR dX1_init_51 flX1_27 ((shN_lt (by decide)).trans rfl) rfl (rfl) ?_
  refine jx_iload_n dX1_init_54 rfl ?_
  refine jx_new (ci := 3) (r := (RX3, TX3, 6)) dX1_init_55 clX1_25 rfl jclX3 itX3 iiX3 rfl (by decide) (fun k => hz _ (by decide) k) (by decide) (by decide) ?_
  refine jx_dup dX1_init_58 rfl ?_
  refine jx_invIN (as := []) dX1_init_59 mlX1_35 okX3_init inX3_init rfl rfl rfl (by decide) (by decide) (by decide) (Nat.le_of_ble_eq_true rfl) (gX3_init hW _ _) (fun _ _ h => h) (fun v59 t59 hq59 => ?_)
  obtain ⟨rfl, rfl⟩ := hq59
  refine jx_aast5 3 dX1_init_62 ((shN_lt (by decide)).trans rfl) rfl (by decide) (by decide) ((shN_lt (by decide)).trans rfl) ?_
  refine jx_iinc dX1_init_63 rfl (v := 4) (by decide) (by decide) ?_
  refine jx_goto 44 dX1_init_66 (by decide) ?_
  refine jx_iload_n dX1_init_44 rfl ?_
  refine jx_bipush (v := 6) dX1_init_45 (by decide) ?_
  refine jx_icmpN_ge (a := 4) (b := 6) 69 dX1_init_47 (by decide) (by decide) (by decide) (fun h47 => absurd h47 (by decide)) (fun h47 => ?_)
  refine jx_aload_n dX1_init_50 rfl ?_
  refine jx_getR dX1_init_51 flX1_27 ((shN_lt (by decide)).trans rfl) rfl (rfl) ?_
  refine jx_iload_n dX1_init_54 rfl ?_
  refine jx_new (ci := 3) (r := (RX3, TX3, 6)) dX1_init_55 clX1_25 rfl jclX3 itX3 iiX3 rfl (by decide) (fun k => hz _ (by decide) k) (by decide) (by decide) ?_
  refine jx_dup dX1_init_58 rfl ?_
  refine jx_invIN (as := []) dX1_init_59 mlX1_35 okX3_init inX3_init rfl rfl rfl (by decide) (by decide) (by decide) (Nat.le_of_ble_eq_true rfl) (gX3_init hW _ _) (fun _ _ h => h) (fun v59 t59 hq59 => ?_)
  obtain ⟨rfl, rfl⟩ := hq59
  refine jx_aast5 4 dX1_init_62 ((shN_lt (by decide)).trans rfl) rfl (by decide) (by decide) ((shN_lt (by decide)).trans rfl) ?_
  refine jx_iinc dX1_init_63 rfl (v := 5) (by decide) (by decide) ?_
  refine jx_goto 44 dX1_init_66 (by decide) ?_
  refine jx_iload_n dX1_init_44 rfl ?_
  refine jx_bipush (v := 6) dX1_init_45 (by decide) ?_
  refine jx_icmpN_ge (a := 5) (b := 6) 69 dX1_init_47 (by decide) (by decide) (by decide) (fun h47 => absurd h47 (by decide)) (fun h47 => ?_)
  refine jx_aload_n dX1_init_50 rfl ?_
  refine jx_getR dX1_init_51 flX1_27 ((shN_lt (by decide)).trans rfl) rfl (rfl) ?_
  refine jx_iload_n dX1_init_54 rfl ?_
  refine jx_new (ci := 3) (r := (RX3, TX3, 6)) dX1_init_55 clX1_25 rfl jclX3 itX3 iiX3 rfl (by decide) (fun k => hz _ (by decide) k) (by decide) (by decide) ?_
  refine jx_dup dX1_init_58 rfl ?_
  refine jx_invIN (as := []) dX1_init_59 mlX1_35 okX3_init inX3_init rfl rfl rfl (by decide) (by decide) (by decide) (Nat.le_of_ble_eq_true rfl) (gX3_init hW _ _) (fun _ _ h => h) (fun v59 t59 hq59 => ?_)
  obtain ⟨rfl, rfl⟩ := hq59
  refine jx_aast5 5 dX1_init_62 ((shN_lt (by decide)).trans rfl) rfl (by decide) (by decide) ((shN_lt (by decide)).trans rfl) ?_
  refine jx_iinc dX1_init_63 rfl (v := 6) (by decide) (by decide) ?_
  refine jx_goto 44 dX1_init_66 (by decide) ?_
  refine jx_iload_n dX1_init_44 rfl ?_
  refine jx_bipush (v := 6) dX1_init_45 (by decide) ?_
  refine jx_icmpN_ge (a := 6) (b := 6) 69 dX1_init_47 (by decide) (by decide) (by decide) (fun h47 => ?_) (fun h47 => absurd h47 (by decide))
  refine jx_aload_n dX1_init_69 rfl ?_
  refine jx_invV (a := 1024) (ci := 1) (r := (RX1, TX1, 9)) (as := []) dX1_init_70 mlX1_36 okX1_clear viX1_clear rfl ((shN_lt (N := 1040) (a := 1024) (by decide)).trans rfl) rfl rfl rfl (by decide) (Nat.zero_le _) (Nat.zero_le _) (Nat.le_of_ble_eq_true rfl) (gX1_clear (h := 1024) (T := T) hW hRS (by decide) (by decide) hT) (fun v70 t70 hq70 => ?_) (fun _ _ h => h.elim)
  obtain ⟨rfl, J, M, rfl, a1, a2, c1⟩ := hq70
  refine jx_aload_n dX1_init_73 rfl ?_
  refine jx_getR dX1_init_74 flX1_12 ((shN_lt (by decide)).trans rfl) rfl (rfl) ?_
  refine jx_invV (a := 1025) (ci := 8) (r := (RX8, TX8, 15)) (as := []) dX1_init_77 mlX1_39 okX8_settle viX8_settle rfl ((shN_lt (N := 1040) (a := 1025) (by decide)).trans rfl) rfl rfl rfl (by decide) (Nat.zero_le _) (Nat.zero_le _) (Nat.le_of_ble_eq_true rfl) (gX8_settle (h := 1024) hW hRS (by decide) (by decide)) (fun v77 t77 hq77 => ?_) (fun _ _ h => h.elim)
  obtain ⟨rfl, M2, lim, rfl, m1, l1, l2, l3, l4⟩ := hq77
  refine jx_vret dX1_init_80 rfl ?_
  refine ⟨rfl, J, M2, _, rfl, fun a k ha => ⟨a1 a k (Or.inl ha), (m1 a k (by omega)).trans (a2 a k (by omega)), ?_⟩, fun a ha k => ⟨?_, ?_, ?_⟩, hRS, CIs_of (by decide) c1 (BT_bg hT (hT.1 0 (by decide)) (hT.1 1 (by decide)) (by decide)) m1 l1 l2 l3 l4⟩
  · rw [upR_n (show ¬ (a = 1032 ∧ k = 5) by omega), upR_n (show ¬ (a = 1032 ∧ k = 4) by omega), upR_n (show ¬ (a = 1032 ∧ k = 3) by omega), upR_n (show ¬ (a = 1032 ∧ k = 2) by omega), upR_n (show ¬ (a = 1032 ∧ k = 1) by omega), upR_n (show ¬ (a = 1032 ∧ k = 0) by omega), upR_n (show ¬ (a = 1024 ∧ k = 8) by omega), upR_n (show ¬ (a = 1024 ∧ k = 2) by omega), upR_n (show ¬ (a = 1024 ∧ k = 1) by omega), upR_n (show ¬ (a = 1029 ∧ k = 1) by omega), upR_n (show ¬ (a = 1029 ∧ k = 0) by omega), upR_n (show ¬ (a = 1024 ∧ k = 0) by omega), upR_n (show ¬ (a = 1025 ∧ k = 14) by omega), upR_n (show ¬ (a = 1025 ∧ k = 6) by omega), upR_n (show ¬ (a = 1025 ∧ k = 2) by omega)]
  · rw [a1 a k (Or.inr ha)]; exact (hz a (by omega) k).1
  · rw [m1 a k (by omega), a2 a k (by omega)]; exact (hz a (by omega) k).2.1
  · rw [upR_n (show ¬ (a = 1032 ∧ k = 5) by omega), upR_n (show ¬ (a = 1032 ∧ k = 4) by omega), upR_n (show ¬ (a = 1032 ∧ k = 3) by omega), upR_n (show ¬ (a = 1032 ∧ k = 2) by omega), upR_n (show ¬ (a = 1032 ∧ k = 1) by omega), upR_n (show ¬ (a = 1032 ∧ k = 0) by omega), upR_n (show ¬ (a = 1024 ∧ k = 8) by omega), upR_n (show ¬ (a = 1024 ∧ k = 2) by omega), upR_n (show ¬ (a = 1024 ∧ k = 1) by omega), upR_n (show ¬ (a = 1029 ∧ k = 1) by omega), upR_n (show ¬ (a = 1029 ∧ k = 0) by omega), upR_n (show ¬ (a = 1024 ∧ k = 0) by omega), upR_n (show ¬ (a = 1025 ∧ k = 14) by omega), upR_n (show ¬ (a = 1025 ∧ k = 6) by omega), upR_n (show ¬ (a = 1025 ∧ k = 2) by omega)]; exact (hz a (by omega) k).2.2
set_option maxHeartbeats 2000000 in
set_option maxRecDepth 40000 in
theorem gX10_init (hW : jWok w l) (hT : bgT T) (hz : Zr 1000 I L R) (hlow : ∀ a k, a < 1000 → I a k = 0 ∧ L a k = 0) : jCt w l mX10_init 6 68 9773 [.ref 1000] (1001, shN 1001, I, L, R) (fun v t => v = none ∧ ∃ J M R', t = (1069, shN 1069, J, M, R') ∧ Zr 1069 J M R' ∧ RSn R' 1000 1069 ∧ R' 1000 4 = some 1008 ∧ R' 1000 5 = some 1024 ∧ R' 1040 0 = some 1008 ∧ CIs J M 1008 T 6 4 0 0 ∧ (∀ a k, (a < 1008 ∨ 1040 ≤ a) → ¬ (a = 1000 ∧ (k = 3 ∨ k = 13)) → J a k = 0 ∧ M a k = 0) ∧ J 1000 3 = -1 ∧ J 1000 13 = -1) (fun _ _ => False) := by
  refine jCt_of hW (by decide) rfl (Nat.le_of_ble_eq_true rfl) ?_
  refine jx_aload_n dX10_init_0 rfl ?_
  refine jx_objInit dX10_init_1 mlX10_1 oi_in oi_co (Nat.le_of_ble_eq_true rfl) ?_
  refine jx_aload_n dX10_init_4 rfl ?_
  refine jx_sipush (v := 700) dX10_init_5 (by decide) ?_
  refine jx_newarr (t := 2) (m := 700) dX10_init_8 ac_byte rfl (by decide) rfl (by decide) (fun k => hz _ (by decide) k) (by decide) (by decide) ?_
  refine jx_putF (ci := 10) (k := 0) dX10_init_10 rfl jclX10 (by decide) (jm2 218 rfl) ((shN_lt (by decide)).trans rfl) rfl rfl rfl rfl ?_
  refine jx_aload_n dX10_init_13 rfl ?_
  refine jx_bipush (v := 96) dX10_init_14 (by decide) ?_
  refine jx_newarr (t := 1) (m := 96) dX10_init_16 ac_int rfl (by decide) rfl (by decide) (fun k => hz _ (by decide) k) (by decide) (by decide) ?_
  refine jx_putF (ci := 10) (k := 11) dX10_init_18 rfl jclX10 (by decide) (jm2 229 rfl) ((shN_lt (by decide)).trans rfl) rfl rfl rfl rfl ?_
  refine jx_aload_n dX10_init_21 rfl ?_
  refine jx_bipush (v := 6) dX10_init_22 (by decide) ?_
  refine jx_newarr (t := 1) (m := 6) dX10_init_24 ac_int rfl (by decide) rfl (by decide) (fun k => hz _ (by decide) k) (by decide) (by decide) ?_
  refine jx_putF (ci := 10) (k := 14) dX10_init_26 rfl jclX10 (by decide) (jm2 232 rfl) ((shN_lt (by decide)).trans rfl) rfl rfl rfl rfl ?_
  refine jx_aload_n dX10_init_29 rfl ?_
  refine jx_new (ci := 5) (r := (RX5, TX5, 5)) dX10_init_30 clX10_20 rfl jclX5 itX5 iiX5 rfl (by decide) (fun k => hz _ (by decide) k) (by decide) (by decide) ?_
  refine jx_dup dX10_init_33 rfl ?_
  refine jx_aload_n dX10_init_34 rfl ?_
  refine jx_getR dX10_init_35 flX10_9 ((shN_lt (by decide)).trans rfl) rfl (rfl) ?_
  refine jx_invI (as := [.ref 1001]) dX10_init_38 mlX10_22 okX5_init inX5_init rfl rfl rfl (by decide) (by decide) (by decide) (Nat.le_of_ble_eq_true rfl) (gX5_init_1004 (I := I) (L := L) (R := (upR (upR (upR R 1000 0 (some 1001)) 1000 11 (some 1002)) 1000 14 (some 1003))) hW (fun a ha k => by have q := hz a (by omega) k; refine ⟨q.1, q.2.1, ?_⟩; rw [upR_n (show ¬ (a = 1000 ∧ k = 14) by omega), upR_n (show ¬ (a = 1000 ∧ k = 11) by omega), upR_n (show ¬ (a = 1000 ∧ k = 0) by omega)]; exact q.2.2)) (fun _ _ h => h) (fun v38 t38 hq38 => ?_)
  obtain ⟨rfl, rfl⟩ := hq38
  refine jx_putF (ci := 10) (k := 2) dX10_init_41 rfl jclX10 (by decide) (jm2 220 rfl) ((shN_lt (by decide)).trans rfl) rfl rfl rfl rfl ?_
  refine jx_aload_n dX10_init_44 rfl ?_
  refine jx_new (ci := 1) (r := (RX1, TX1, 9)) dX10_init_45 clX10_29 rfl jclX1 itX1 iiX1 rfl (by decide) (fun k => hz _ (by decide) k) (by decide) (by decide) ?_
  refine jx_dup dX10_init_48 rfl ?_
  refine jx_invI (as := []) dX10_init_49 mlX10_31 okX1_init inX1_init rfl rfl rfl (by decide) (by decide) (by decide) (Nat.le_of_ble_eq_true rfl) (gX1_init_1008 (I := I) (L := L) (R := (upR (upR (upR (upR (upR (upR (upR (upR (upR R 1000 0 (some 1001)) 1000 11 (some 1002)) 1000 14 (some 1003)) 1005 0 (some 1001)) 1004 0 (some 1005)) 1006 1 (some 1007)) 1006 0 (some 1005)) 1004 1 (some 1006)) 1000 2 (some 1004))) hW hT (fun a ha k => by have q := hz a (by omega) k; refine ⟨q.1, q.2.1, ?_⟩; rw [upR_n (show ¬ (a = 1000 ∧ k = 2) by omega), upR_n (show ¬ (a = 1004 ∧ k = 1) by omega), upR_n (show ¬ (a = 1006 ∧ k = 0) by omega), upR_n (show ¬ (a = 1006 ∧ k = 1) by omega), upR_n (show ¬ (a = 1004 ∧ k = 0) by omega), upR_n (show ¬ (a = 1005 ∧ k = 0) by omega), upR_n (show ¬ (a = 1000 ∧ k = 14) by omega), upR_n (show ¬ (a = 1000 ∧ k = 11) by omega), upR_n (show ¬ (a = 1000 ∧ k = 0) by omega)]; exact q.2.2)) (fun _ _ h => h) (fun v49 t49 hq49 => ?_)
  obtain ⟨rfl, J1, M1, R1, rfl, f1, z1, r1, c1⟩ := hq49
  refine jx_putR dX10_init_52 flX10_32 ((shN_lt (by decide)).trans rfl) ⟨_, rfl⟩ (fun r h => by cases h; rfl) ?_
  refine jx_aload_n dX10_init_55 rfl ?_
  refine jx_new (ci := 1) (r := (RX1, TX1, 9)) dX10_init_56 clX10_29 rfl jclX1 itX1 iiX1 rfl (by decide) (fun k => z1 _ (by decide) k) (by decide) (by decide) ?_
  refine jx_dup dX10_init_59 rfl ?_
  refine jx_invI (as := []) dX10_init_60 mlX10_31 okX1_init inX1_init rfl rfl rfl (by decide) (by decide) (by decide) (Nat.le_of_ble_eq_true rfl) (gX1_init_1024 (I := J1) (L := M1) (R := (upR R1 1000 4 (some 1008))) hW hT (fun a ha k => by have q := z1 a (by omega) k; refine ⟨q.1, q.2.1, ?_⟩; rw [upR_n (show ¬ (a = 1000 ∧ k = 4) by omega)]; exact q.2.2)) (fun _ _ h => h) (fun v60 t60 hq60 => ?_)
  obtain ⟨rfl, J2, M2, R2, rfl, f2, z2, r2, c2⟩ := hq60
  refine jx_putR dX10_init_63 flX10_36 ((shN_lt (by decide)).trans rfl) ⟨_, rfl⟩ (fun r h => by cases h; rfl) ?_
  refine jx_aload_n dX10_init_66 rfl ?_
  refine jx_new (ci := 0) (r := (RX0, TX0, 9)) dX10_init_67 clX10_39 rfl jclX0 itX0 iiX0 rfl (by decide) (fun k => z2 _ (by decide) k) (by decide) (by decide) ?_
  refine jx_dup dX10_init_70 rfl ?_
  refine jx_aload_n dX10_init_71 rfl ?_
  refine jx_getR dX10_init_72 flX10_32 ((shN_lt (by decide)).trans rfl) rfl ((f2 1000 4 (by decide)).2.2) ?_
  refine jx_invI (as := [.ref 1008]) dX10_init_75 mlX10_41 okX0_init inX0_init rfl rfl rfl (by decide) (by decide) (by decide) (Nat.le_of_ble_eq_true rfl) (gX0_init_1040 (I := J2) (L := M2) (R := (upR R2 1000 5 (some 1024))) hW (fun a ha k => by have q := z2 a (by omega) k; refine ⟨q.1, q.2.1, ?_⟩; rw [upR_n (show ¬ (a = 1000 ∧ k = 5) by omega)]; exact q.2.2)) (fun _ _ h => h) (fun v75 t75 hq75 => ?_)
  obtain ⟨rfl, rfl⟩ := hq75
  refine jx_putF (ci := 10) (k := 6) dX10_init_78 rfl jclX10 (by decide) (jm2 224 rfl) ((shN_lt (by decide)).trans rfl) rfl rfl rfl rfl ?_
  refine jx_aload_n dX10_init_81 rfl ?_
  refine jx_new (ci := 4) (r := (RX4, TX4, 5)) dX10_init_82 clX10_48 rfl jclX4 itX4 iiX4 rfl (by decide) (fun k => z2 _ (by decide) k) (by decide) (by decide) ?_
  refine jx_dup dX10_init_85 rfl ?_
  refine jx_aload_n dX10_init_86 rfl ?_
  refine jx_getR dX10_init_87 flX10_44 ((shN_lt (by decide)).trans rfl) rfl (rfl) ?_
  refine jx_invI (as := [.ref 1040]) dX10_init_90 mlX10_50 okX4_init inX4_init rfl rfl rfl (by decide) (by decide) (by decide) (Nat.le_of_ble_eq_true rfl) (gX4_init_1046 (I := J2) (L := M2) (R := (upR (upR (upR (upR (upR (upR (upR (upR R2 1000 5 (some 1024)) 1040 1 (some 1041)) 1040 3 (some 1042)) 1040 4 (some 1043)) 1040 5 (some 1044)) 1040 6 (some 1045)) 1040 0 (some 1008)) 1000 6 (some 1040))) hW (fun a ha k => by have q := z2 a (by omega) k; refine ⟨q.1, q.2.1, ?_⟩; rw [upR_n (show ¬ (a = 1000 ∧ k = 6) by omega), upR_n (show ¬ (a = 1040 ∧ k = 0) by omega), upR_n (show ¬ (a = 1040 ∧ k = 6) by omega), upR_n (show ¬ (a = 1040 ∧ k = 5) by omega), upR_n (show ¬ (a = 1040 ∧ k = 4) by omega), upR_n (show ¬ (a = 1040 ∧ k = 3) by omega), upR_n (show ¬ (a = 1040 ∧ k = 1) by omega), upR_n (show ¬ (a = 1000 ∧ k = 5) by omega)]; exact q.2.2)) (fun _ _ h => h) (fun v90 t90 hq90 => ?_)
  obtain ⟨rfl, rfl⟩ := hq90
  refine jx_putF (ci := 10) (k := 7) dX10_init_93 rfl jclX10 (by decide) (jm2 225 rfl) ((shN_lt (by decide)).trans rfl) rfl rfl rfl rfl ?_
  refine jx_aload_n dX10_init_96 rfl ?_
  refine jx_new (ci := 2) (r := (RX2, TX2, 11)) dX10_init_97 clX10_57 rfl jclX2 itX2 iiX2 rfl (by decide) (fun k => z2 _ (by decide) k) (by decide) (by decide) ?_
  refine jx_dup dX10_init_100 rfl ?_
  refine jx_invIN (as := []) dX10_init_101 mlX10_59 okX2_init inX2_init rfl rfl rfl (by decide) (by decide) (by decide) (Nat.le_of_ble_eq_true rfl) (gX2_init_1051 (I := J2) (L := M2) (R := (upR (upR (upR (upR (upR (upR (upR (upR (upR (upR (upR (upR (upR (upR R2 1000 5 (some 1024)) 1040 1 (some 1041)) 1040 3 (some 1042)) 1040 4 (some 1043)) 1040 5 (some 1044)) 1040 6 (some 1045)) 1040 0 (some 1008)) 1000 6 (some 1040)) 1046 1 (some 1047)) 1046 2 (some 1048)) 1046 3 (some 1049)) 1046 4 (some 1050)) 1046 0 (some 1040)) 1000 7 (some 1046))) hW (fun a ha k => by have q := z2 a (by omega) k; refine ⟨q.1, q.2.1, ?_⟩; rw [upR_n (show ¬ (a = 1000 ∧ k = 7) by omega), upR_n (show ¬ (a = 1046 ∧ k = 0) by omega), upR_n (show ¬ (a = 1046 ∧ k = 4) by omega), upR_n (show ¬ (a = 1046 ∧ k = 3) by omega), upR_n (show ¬ (a = 1046 ∧ k = 2) by omega), upR_n (show ¬ (a = 1046 ∧ k = 1) by omega), upR_n (show ¬ (a = 1000 ∧ k = 6) by omega), upR_n (show ¬ (a = 1040 ∧ k = 0) by omega), upR_n (show ¬ (a = 1040 ∧ k = 6) by omega), upR_n (show ¬ (a = 1040 ∧ k = 5) by omega), upR_n (show ¬ (a = 1040 ∧ k = 4) by omega), upR_n (show ¬ (a = 1040 ∧ k = 3) by omega), upR_n (show ¬ (a = 1040 ∧ k = 1) by omega), upR_n (show ¬ (a = 1000 ∧ k = 5) by omega)]; exact q.2.2)) (fun _ _ h => h) (fun v101 t101 hq101 => ?_)
  obtain ⟨rfl, rfl⟩ := hq101
  refine jx_putF (ci := 10) (k := 8) dX10_init_104 rfl jclX10 (by decide) (jm2 226 rfl) ((shN_lt (by decide)).trans rfl) rfl rfl rfl rfl ?_
  refine jx_aload_n dX10_init_107 rfl ?_
  refine jx_new (ci := 2) (r := (RX2, TX2, 11)) dX10_init_108 clX10_57 rfl jclX2 itX2 iiX2 rfl (by decide) (fun k => z2 _ (by decide) k) (by decide) (by decide) ?_
  refine jx_dup dX10_init_111 rfl ?_
  refine jx_invIN (as := []) dX10_init_112 mlX10_59 okX2_init inX2_init rfl rfl rfl (by decide) (by decide) (by decide) (Nat.le_of_ble_eq_true rfl) (gX2_init_1060 (I := J2) (L := M2) (R := (upR (upR (upR (upR (upR (upR (upR (upR (upR (upR (upR (upR (upR (upR (upR (upR (upR (upR (upR (upR (upR (upR (upR R2 1000 5 (some 1024)) 1040 1 (some 1041)) 1040 3 (some 1042)) 1040 4 (some 1043)) 1040 5 (some 1044)) 1040 6 (some 1045)) 1040 0 (some 1008)) 1000 6 (some 1040)) 1046 1 (some 1047)) 1046 2 (some 1048)) 1046 3 (some 1049)) 1046 4 (some 1050)) 1046 0 (some 1040)) 1000 7 (some 1046)) 1051 0 (some 1052)) 1051 1 (some 1053)) 1051 2 (some 1054)) 1051 3 (some 1055)) 1051 4 (some 1056)) 1051 6 (some 1057)) 1051 7 (some 1058)) 1051 10 (some 1059)) 1000 8 (some 1051))) hW (fun a ha k => by have q := z2 a (by omega) k; refine ⟨q.1, q.2.1, ?_⟩; rw [upR_n (show ¬ (a = 1000 ∧ k = 8) by omega), upR_n (show ¬ (a = 1051 ∧ k = 10) by omega), upR_n (show ¬ (a = 1051 ∧ k = 7) by omega), upR_n (show ¬ (a = 1051 ∧ k = 6) by omega), upR_n (show ¬ (a = 1051 ∧ k = 4) by omega), upR_n (show ¬ (a = 1051 ∧ k = 3) by omega), upR_n (show ¬ (a = 1051 ∧ k = 2) by omega), upR_n (show ¬ (a = 1051 ∧ k = 1) by omega), upR_n (show ¬ (a = 1051 ∧ k = 0) by omega), upR_n (show ¬ (a = 1000 ∧ k = 7) by omega), upR_n (show ¬ (a = 1046 ∧ k = 0) by omega), upR_n (show ¬ (a = 1046 ∧ k = 4) by omega), upR_n (show ¬ (a = 1046 ∧ k = 3) by omega), upR_n (show ¬ (a = 1046 ∧ k = 2) by omega), upR_n (show ¬ (a = 1046 ∧ k = 1) by omega), upR_n (show ¬ (a = 1000 ∧ k = 6) by omega), upR_n (show ¬ (a = 1040 ∧ k = 0) by omega), upR_n (show ¬ (a = 1040 ∧ k = 6) by omega), upR_n (show ¬ (a = 1040 ∧ k = 5) by omega), upR_n (show ¬ (a = 1040 ∧ k = 4) by omega), upR_n (show ¬ (a = 1040 ∧ k = 3) by omega), upR_n (show ¬ (a = 1040 ∧ k = 1) by omega), upR_n (show ¬ (a = 1000 ∧ k = 5) by omega)]; exact q.2.2)) (fun _ _ h => h) (fun v112 t112 hq112 => ?_)
  obtain ⟨rfl, rfl⟩ := hq112
  refine jx_putF (ci := 10) (k := 9) dX10_init_115 rfl jclX10 (by decide) (jm2 227 rfl) ((shN_lt (by decide)).trans rfl) rfl rfl rfl rfl ?_
  refine jx_aload_n dX10_init_118 rfl ?_
  refine jx_iconst (v := 0) dX10_init_119 (by decide) ?_
  refine jx_putI dX10_init_120 flX10_67 ((shN_lt (by decide)).trans rfl) rfl (fun r h => by cases h; rfl) ?_
  refine jx_aload_n dX10_init_123 rfl ?_
  refine jx_iconst (v := -1) dX10_init_124 (by decide) ?_
  refine jx_putI dX10_init_125 flX10_71 ((shN_lt (by decide)).trans rfl) rfl (fun r h => by cases h; rfl) ?_
  refine jx_aload_n dX10_init_128 rfl ?_
  refine jx_iconst (v := -1) dX10_init_129 (by decide) ?_
  refine jx_putI dX10_init_130 flX10_74 ((shN_lt (by decide)).trans rfl) rfl (fun r h => by cases h; rfl) ?_
  refine jx_vret dX10_init_133 rfl ?_
  have hRS : RSn (upR (upR (upR (upR (upR (upR (upR (upR (upR (upR (upR (upR (upR (upR (upR (upR (upR (upR (upR (upR (upR (upR (upR (upR (upR (upR (upR (upR (upR (upR (upR (upR R2 1000 5 (some 1024)) 1040 1 (some 1041)) 1040 3 (some 1042)) 1040 4 (some 1043)) 1040 5 (some 1044)) 1040 6 (some 1045)) 1040 0 (some 1008)) 1000 6 (some 1040)) 1046 1 (some 1047)) 1046 2 (some 1048)) 1046 3 (some 1049)) 1046 4 (some 1050)) 1046 0 (some 1040)) 1000 7 (some 1046)) 1051 0 (some 1052)) 1051 1 (some 1053)) 1051 2 (some 1054)) 1051 3 (some 1055)) 1051 4 (some 1056)) 1051 6 (some 1057)) 1051 7 (some 1058)) 1051 10 (some 1059)) 1000 8 (some 1051)) 1060 0 (some 1061)) 1060 1 (some 1062)) 1060 2 (some 1063)) 1060 3 (some 1064)) 1060 4 (some 1065)) 1060 6 (some 1066)) 1060 7 (some 1067)) 1060 10 (some 1068)) 1000 9 (some 1060)) 1000 1069 := by
    intro a k x h1 h2 hx
    by_cases b1 : a < 1008
    · have ha : a = 1000 ∨ a = 1001 ∨ a = 1002 ∨ a = 1003 ∨ a = 1004 ∨ a = 1005 ∨ a = 1006 ∨ a = 1007 := by omega
      rcases ha with rfl | rfl | rfl | rfl | rfl | rfl | rfl | rfl
      · replace hx : List.lookup k [(0, 1001), (2, 1004), (6, 1040), (7, 1046), (8, 1051), (9, 1060), (11, 1002), (14, 1003)] = some x := hx
        rcases lk_c hx with ⟨rfl, rfl⟩ | hx
        · first | rfl | exact (f2 _ _ (by decide)).2.2.trans rfl | exact (f2 _ _ (by decide)).2.2.trans ((f1 _ _ (by decide)).2.2.trans rfl)
        rcases lk_c hx with ⟨rfl, rfl⟩ | hx
        · first | rfl | exact (f2 _ _ (by decide)).2.2.trans rfl | exact (f2 _ _ (by decide)).2.2.trans ((f1 _ _ (by decide)).2.2.trans rfl)
        rcases lk_c hx with ⟨rfl, rfl⟩ | hx
        · first | rfl | exact (f2 _ _ (by decide)).2.2.trans rfl | exact (f2 _ _ (by decide)).2.2.trans ((f1 _ _ (by decide)).2.2.trans rfl)
        rcases lk_c hx with ⟨rfl, rfl⟩ | hx
        · first | rfl | exact (f2 _ _ (by decide)).2.2.trans rfl | exact (f2 _ _ (by decide)).2.2.trans ((f1 _ _ (by decide)).2.2.trans rfl)
        rcases lk_c hx with ⟨rfl, rfl⟩ | hx
        · first | rfl | exact (f2 _ _ (by decide)).2.2.trans rfl | exact (f2 _ _ (by decide)).2.2.trans ((f1 _ _ (by decide)).2.2.trans rfl)
        rcases lk_c hx with ⟨rfl, rfl⟩ | hx
        · first | rfl | exact (f2 _ _ (by decide)).2.2.trans rfl | exact (f2 _ _ (by decide)).2.2.trans ((f1 _ _ (by decide)).2.2.trans rfl)
        rcases lk_c hx with ⟨rfl, rfl⟩ | hx
        · first | rfl | exact (f2 _ _ (by decide)).2.2.trans rfl | exact (f2 _ _ (by decide)).2.2.trans ((f1 _ _ (by decide)).2.2.trans rfl)
        rcases lk_c hx with ⟨rfl, rfl⟩ | hx
        · first | rfl | exact (f2 _ _ (by decide)).2.2.trans rfl | exact (f2 _ _ (by decide)).2.2.trans ((f1 _ _ (by decide)).2.2.trans rfl)
        exact (lk_n hx).elim
      · exact (lk_n (k := k) (x := x) hx).elim
      · exact (lk_n (k := k) (x := x) hx).elim
      · exact (lk_n (k := k) (x := x) hx).elim
      · replace hx : List.lookup k [(0, 1005), (1, 1006)] = some x := hx
        rcases lk_c hx with ⟨rfl, rfl⟩ | hx
        · first | rfl | exact (f2 _ _ (by decide)).2.2.trans rfl | exact (f2 _ _ (by decide)).2.2.trans ((f1 _ _ (by decide)).2.2.trans rfl)
        rcases lk_c hx with ⟨rfl, rfl⟩ | hx
        · first | rfl | exact (f2 _ _ (by decide)).2.2.trans rfl | exact (f2 _ _ (by decide)).2.2.trans ((f1 _ _ (by decide)).2.2.trans rfl)
        exact (lk_n hx).elim
      · replace hx : List.lookup k [(0, 1001)] = some x := hx
        rcases lk_c hx with ⟨rfl, rfl⟩ | hx
        · first | rfl | exact (f2 _ _ (by decide)).2.2.trans rfl | exact (f2 _ _ (by decide)).2.2.trans ((f1 _ _ (by decide)).2.2.trans rfl)
        exact (lk_n hx).elim
      · replace hx : List.lookup k [(0, 1005), (1, 1007)] = some x := hx
        rcases lk_c hx with ⟨rfl, rfl⟩ | hx
        · first | rfl | exact (f2 _ _ (by decide)).2.2.trans rfl | exact (f2 _ _ (by decide)).2.2.trans ((f1 _ _ (by decide)).2.2.trans rfl)
        rcases lk_c hx with ⟨rfl, rfl⟩ | hx
        · first | rfl | exact (f2 _ _ (by decide)).2.2.trans rfl | exact (f2 _ _ (by decide)).2.2.trans ((f1 _ _ (by decide)).2.2.trans rfl)
        exact (lk_n hx).elim
      · exact (lk_n (k := k) (x := x) hx).elim
    · by_cases b2 : a < 1024
      · rw [upR_n (show ¬ (a = 1000 ∧ k = 9) by omega), upR_n (show ¬ (a = 1060 ∧ k = 10) by omega), upR_n (show ¬ (a = 1060 ∧ k = 7) by omega), upR_n (show ¬ (a = 1060 ∧ k = 6) by omega), upR_n (show ¬ (a = 1060 ∧ k = 4) by omega), upR_n (show ¬ (a = 1060 ∧ k = 3) by omega), upR_n (show ¬ (a = 1060 ∧ k = 2) by omega), upR_n (show ¬ (a = 1060 ∧ k = 1) by omega), upR_n (show ¬ (a = 1060 ∧ k = 0) by omega), upR_n (show ¬ (a = 1000 ∧ k = 8) by omega), upR_n (show ¬ (a = 1051 ∧ k = 10) by omega), upR_n (show ¬ (a = 1051 ∧ k = 7) by omega), upR_n (show ¬ (a = 1051 ∧ k = 6) by omega), upR_n (show ¬ (a = 1051 ∧ k = 4) by omega), upR_n (show ¬ (a = 1051 ∧ k = 3) by omega), upR_n (show ¬ (a = 1051 ∧ k = 2) by omega), upR_n (show ¬ (a = 1051 ∧ k = 1) by omega), upR_n (show ¬ (a = 1051 ∧ k = 0) by omega), upR_n (show ¬ (a = 1000 ∧ k = 7) by omega), upR_n (show ¬ (a = 1046 ∧ k = 0) by omega), upR_n (show ¬ (a = 1046 ∧ k = 4) by omega), upR_n (show ¬ (a = 1046 ∧ k = 3) by omega), upR_n (show ¬ (a = 1046 ∧ k = 2) by omega), upR_n (show ¬ (a = 1046 ∧ k = 1) by omega), upR_n (show ¬ (a = 1000 ∧ k = 6) by omega), upR_n (show ¬ (a = 1040 ∧ k = 0) by omega), upR_n (show ¬ (a = 1040 ∧ k = 6) by omega), upR_n (show ¬ (a = 1040 ∧ k = 5) by omega), upR_n (show ¬ (a = 1040 ∧ k = 4) by omega), upR_n (show ¬ (a = 1040 ∧ k = 3) by omega), upR_n (show ¬ (a = 1040 ∧ k = 1) by omega), upR_n (show ¬ (a = 1000 ∧ k = 5) by omega), (f2 a k (by omega)).2.2, upR_n (by omega)]
        exact r1 a k x (by omega) b2 hx
      · by_cases b3 : a < 1040
        · rw [upR_n (show ¬ (a = 1000 ∧ k = 9) by omega), upR_n (show ¬ (a = 1060 ∧ k = 10) by omega), upR_n (show ¬ (a = 1060 ∧ k = 7) by omega), upR_n (show ¬ (a = 1060 ∧ k = 6) by omega), upR_n (show ¬ (a = 1060 ∧ k = 4) by omega), upR_n (show ¬ (a = 1060 ∧ k = 3) by omega), upR_n (show ¬ (a = 1060 ∧ k = 2) by omega), upR_n (show ¬ (a = 1060 ∧ k = 1) by omega), upR_n (show ¬ (a = 1060 ∧ k = 0) by omega), upR_n (show ¬ (a = 1000 ∧ k = 8) by omega), upR_n (show ¬ (a = 1051 ∧ k = 10) by omega), upR_n (show ¬ (a = 1051 ∧ k = 7) by omega), upR_n (show ¬ (a = 1051 ∧ k = 6) by omega), upR_n (show ¬ (a = 1051 ∧ k = 4) by omega), upR_n (show ¬ (a = 1051 ∧ k = 3) by omega), upR_n (show ¬ (a = 1051 ∧ k = 2) by omega), upR_n (show ¬ (a = 1051 ∧ k = 1) by omega), upR_n (show ¬ (a = 1051 ∧ k = 0) by omega), upR_n (show ¬ (a = 1000 ∧ k = 7) by omega), upR_n (show ¬ (a = 1046 ∧ k = 0) by omega), upR_n (show ¬ (a = 1046 ∧ k = 4) by omega), upR_n (show ¬ (a = 1046 ∧ k = 3) by omega), upR_n (show ¬ (a = 1046 ∧ k = 2) by omega), upR_n (show ¬ (a = 1046 ∧ k = 1) by omega), upR_n (show ¬ (a = 1000 ∧ k = 6) by omega), upR_n (show ¬ (a = 1040 ∧ k = 0) by omega), upR_n (show ¬ (a = 1040 ∧ k = 6) by omega), upR_n (show ¬ (a = 1040 ∧ k = 5) by omega), upR_n (show ¬ (a = 1040 ∧ k = 4) by omega), upR_n (show ¬ (a = 1040 ∧ k = 3) by omega), upR_n (show ¬ (a = 1040 ∧ k = 1) by omega), upR_n (show ¬ (a = 1000 ∧ k = 5) by omega)]
          exact r2 a k x (by omega) b3 hx
        · have ha : a = 1040 ∨ a = 1041 ∨ a = 1042 ∨ a = 1043 ∨ a = 1044 ∨ a = 1045 ∨ a = 1046 ∨ a = 1047 ∨ a = 1048 ∨ a = 1049 ∨ a = 1050 ∨ a = 1051 ∨ a = 1052 ∨ a = 1053 ∨ a = 1054 ∨ a = 1055 ∨ a = 1056 ∨ a = 1057 ∨ a = 1058 ∨ a = 1059 ∨ a = 1060 ∨ a = 1061 ∨ a = 1062 ∨ a = 1063 ∨ a = 1064 ∨ a = 1065 ∨ a = 1066 ∨ a = 1067 ∨ a = 1068 := by omega
          rcases ha with rfl | rfl | rfl | rfl | rfl | rfl | rfl | rfl | rfl | rfl | rfl | rfl | rfl | rfl | rfl | rfl | rfl | rfl | rfl | rfl | rfl | rfl | rfl | rfl | rfl | rfl | rfl | rfl | rfl
          · replace hx : List.lookup k [(1, 1041), (3, 1042), (4, 1043), (5, 1044), (6, 1045)] = some x := hx
            rcases lk_c hx with ⟨rfl, rfl⟩ | hx
            · rfl
            rcases lk_c hx with ⟨rfl, rfl⟩ | hx
            · rfl
            rcases lk_c hx with ⟨rfl, rfl⟩ | hx
            · rfl
            rcases lk_c hx with ⟨rfl, rfl⟩ | hx
            · rfl
            rcases lk_c hx with ⟨rfl, rfl⟩ | hx
            · rfl
            exact (lk_n hx).elim
          · exact (lk_n (k := k) (x := x) hx).elim
          · exact (lk_n (k := k) (x := x) hx).elim
          · exact (lk_n (k := k) (x := x) hx).elim
          · exact (lk_n (k := k) (x := x) hx).elim
          · exact (lk_n (k := k) (x := x) hx).elim
          · replace hx : List.lookup k [(0, 1040), (1, 1047), (2, 1048), (3, 1049), (4, 1050)] = some x := hx
            rcases lk_c hx with ⟨rfl, rfl⟩ | hx
            · rfl
            rcases lk_c hx with ⟨rfl, rfl⟩ | hx
            · rfl
            rcases lk_c hx with ⟨rfl, rfl⟩ | hx
            · rfl
            rcases lk_c hx with ⟨rfl, rfl⟩ | hx
            · rfl
            rcases lk_c hx with ⟨rfl, rfl⟩ | hx
            · rfl
            exact (lk_n hx).elim
          · exact (lk_n (k := k) (x := x) hx).elim
          · exact (lk_n (k := k) (x := x) hx).elim
          · exact (lk_n (k := k) (x := x) hx).elim
          · exact (lk_n (k := k) (x := x) hx).elim
          · replace hx : List.lookup k [(0, 1052), (1, 1053), (2, 1054), (3, 1055), (4, 1056), (6, 1057), (7, 1058), (10, 1059)] = some x := hx
            rcases lk_c hx with ⟨rfl, rfl⟩ | hx
            · rfl
            rcases lk_c hx with ⟨rfl, rfl⟩ | hx
            · rfl
            rcases lk_c hx with ⟨rfl, rfl⟩ | hx
            · rfl
            rcases lk_c hx with ⟨rfl, rfl⟩ | hx
            · rfl
            rcases lk_c hx with ⟨rfl, rfl⟩ | hx
            · rfl
            rcases lk_c hx with ⟨rfl, rfl⟩ | hx
            · rfl
            rcases lk_c hx with ⟨rfl, rfl⟩ | hx
            · rfl
            rcases lk_c hx with ⟨rfl, rfl⟩ | hx
            · rfl
            exact (lk_n hx).elim
          · exact (lk_n (k := k) (x := x) hx).elim
          · exact (lk_n (k := k) (x := x) hx).elim
          · exact (lk_n (k := k) (x := x) hx).elim
          · exact (lk_n (k := k) (x := x) hx).elim
          · exact (lk_n (k := k) (x := x) hx).elim
          · exact (lk_n (k := k) (x := x) hx).elim
          · exact (lk_n (k := k) (x := x) hx).elim
          · exact (lk_n (k := k) (x := x) hx).elim
          · replace hx : List.lookup k [(0, 1061), (1, 1062), (2, 1063), (3, 1064), (4, 1065), (6, 1066), (7, 1067), (10, 1068)] = some x := hx
            rcases lk_c hx with ⟨rfl, rfl⟩ | hx
            · rfl
            rcases lk_c hx with ⟨rfl, rfl⟩ | hx
            · rfl
            rcases lk_c hx with ⟨rfl, rfl⟩ | hx
            · rfl
            rcases lk_c hx with ⟨rfl, rfl⟩ | hx
            · rfl
            rcases lk_c hx with ⟨rfl, rfl⟩ | hx
            · rfl
            rcases lk_c hx with ⟨rfl, rfl⟩ | hx
            · rfl
            rcases lk_c hx with ⟨rfl, rfl⟩ | hx
            · rfl
            rcases lk_c hx with ⟨rfl, rfl⟩ | hx
            · rfl
            exact (lk_n hx).elim
          · exact (lk_n (k := k) (x := x) hx).elim
          · exact (lk_n (k := k) (x := x) hx).elim
          · exact (lk_n (k := k) (x := x) hx).elim
          · exact (lk_n (k := k) (x := x) hx).elim
          · exact (lk_n (k := k) (x := x) hx).elim
          · exact (lk_n (k := k) (x := x) hx).elim
          · exact (lk_n (k := k) (x := x) hx).elim
          · exact (lk_n (k := k) (x := x) hx).elim
  have hJ : ∀ a k, (a < 1008 ∨ 1040 ≤ a) → ¬ (a = 1000 ∧ (k = 1 ∨ k = 3 ∨ k = 13)) → (upI (upI (upI J2 1000 1 0) 1000 3 (-1)) 1000 13 (-1)) a k = 0 ∧ M2 a k = 0 := fun a k h1 h2 => by
    rw [upI_ne (by omega), upI_ne (by omega), upI_ne (by omega)]
    by_cases b1 : a < 1008
    · rw [(f2 a k (by omega)).1, (f1 a k b1).1, (f2 a k (by omega)).2.1, (f1 a k b1).2.1]
      exact if q : 1000 ≤ a then ⟨(hz a q k).1, (hz a q k).2.1⟩ else hlow a k (by omega)
    · exact ⟨(z2 a (by omega) k).1, (z2 a (by omega) k).2.1⟩
  refine ⟨rfl, _, M2, _, rfl, fun a ha k => ⟨?_, ?_, ?_⟩, hRS, ?_, rfl, rfl, CIs_g (T' := T) (BT_bg hT (hT.1 0 (by decide)) (hT.1 1 (by decide)) (by decide)).1 c1 (fun b j q1 q2 _ => ?_) (fun b j q => (f2 b j (by omega)).2.1) (fun _ _ _ => rfl) (fun _ _ => rfl), ?_, rfl, rfl⟩
  · rw [upI_nea (by omega), upI_nea (by omega), upI_nea (by omega)]; exact (z2 a (by omega) k).1
  · exact (z2 a (by omega) k).2.1
  · rw [upR_n (show ¬ (a = 1000 ∧ k = 9) by omega), upR_n (show ¬ (a = 1060 ∧ k = 10) by omega), upR_n (show ¬ (a = 1060 ∧ k = 7) by omega), upR_n (show ¬ (a = 1060 ∧ k = 6) by omega), upR_n (show ¬ (a = 1060 ∧ k = 4) by omega), upR_n (show ¬ (a = 1060 ∧ k = 3) by omega), upR_n (show ¬ (a = 1060 ∧ k = 2) by omega), upR_n (show ¬ (a = 1060 ∧ k = 1) by omega), upR_n (show ¬ (a = 1060 ∧ k = 0) by omega), upR_n (show ¬ (a = 1000 ∧ k = 8) by omega), upR_n (show ¬ (a = 1051 ∧ k = 10) by omega), upR_n (show ¬ (a = 1051 ∧ k = 7) by omega), upR_n (show ¬ (a = 1051 ∧ k = 6) by omega), upR_n (show ¬ (a = 1051 ∧ k = 4) by omega), upR_n (show ¬ (a = 1051 ∧ k = 3) by omega), upR_n (show ¬ (a = 1051 ∧ k = 2) by omega), upR_n (show ¬ (a = 1051 ∧ k = 1) by omega), upR_n (show ¬ (a = 1051 ∧ k = 0) by omega), upR_n (show ¬ (a = 1000 ∧ k = 7) by omega), upR_n (show ¬ (a = 1046 ∧ k = 0) by omega), upR_n (show ¬ (a = 1046 ∧ k = 4) by omega), upR_n (show ¬ (a = 1046 ∧ k = 3) by omega), upR_n (show ¬ (a = 1046 ∧ k = 2) by omega), upR_n (show ¬ (a = 1046 ∧ k = 1) by omega), upR_n (show ¬ (a = 1000 ∧ k = 6) by omega), upR_n (show ¬ (a = 1040 ∧ k = 0) by omega), upR_n (show ¬ (a = 1040 ∧ k = 6) by omega), upR_n (show ¬ (a = 1040 ∧ k = 5) by omega), upR_n (show ¬ (a = 1040 ∧ k = 4) by omega), upR_n (show ¬ (a = 1040 ∧ k = 3) by omega), upR_n (show ¬ (a = 1040 ∧ k = 1) by omega), upR_n (show ¬ (a = 1000 ∧ k = 5) by omega)]; exact (z2 a (by omega) k).2.2
  · exact (f2 1000 4 (by decide)).2.2
  · rw [upI_nea (by omega), upI_nea (by omega), upI_nea (by omega)]; exact (f2 b j (by omega)).1
  · intro a k q1 q2
    by_cases z : a = 1000 ∧ k = 1
    · rw [z.1, z.2]; exact ⟨rfl, by rw [(f2 1000 1 (by decide)).2.1, (f1 1000 1 (by decide)).2.1]; exact (hz 1000 (by decide) 1).2.1⟩
    · exact hJ a k q1 (by omega)
set_option maxHeartbeats 2000000 in
set_option maxRecDepth 40000 in
theorem gX11_init (hW : jWok w l) (hz : Zr 1069 I L R) : jCt w l mX11_init 3 48 18103 [.ref 1069] (1070, shN 1070, I, L, R) (fun v t => v = none ∧ ∃ R', t = (1118, shN 1118, tovH (begH (upI (upI I 1069 26 (-1)) 1069 38 (-1))), L, R') ∧ (∀ a k, a < 1069 → R' a k = R a k) ∧ RSn R' 1069 1118 ∧ ∀ a k, 1118 ≤ a → R' a k = none) (fun _ _ => False) := by
  refine jCt_of hW (by decide) rfl (Nat.le_of_ble_eq_true rfl) ?_
  have hRS : RSn (upR (upR (upR (upR (upR (upR (upR (upR (upR (upR (upR (upR (upR (upR (upR (upR (upR (upR (upR (upR (upR (upR (upR (upR (upR (upR (upR (upR (upR (upR (upR (upR (upR (upR (upR (upR (upR (upR (upR (upR (upR (upR (upR (upR (upR (upR (upR (upR (upR (upR (upR (upR (upR (upR (upR (upR R 1070 0 (some 43)) 1070 1 (some 44)) 1070 2 (some 45)) 1070 3 (some 46)) 1069 0 (some 1070)) 1071 0 (some 47)) 1071 1 (some 48)) 1071 2 (some 49)) 1071 3 (some 50)) 1069 1 (some 1071)) 1069 3 (some 1072)) 1069 4 (some 1073)) 1069 5 (some 1074)) 1069 6 (some 1075)) 1069 7 (some 1076)) 1069 8 (some 1077)) 1069 9 (some 1078)) 1069 10 (some 1079)) 1069 11 (some 1080)) 1069 12 (some 1081)) 1069 13 (some 1082)) 1069 14 (some 1083)) 1069 15 (some 1084)) 1069 16 (some 1085)) 1069 27 (some 1086)) 1069 28 (some 1087)) 1069 29 (some 1088)) 1069 30 (some 1089)) 1069 31 (some 1090)) 1069 34 (some 1091)) 1069 36 (some 1092)) 1069 37 (some 1093)) 1069 39 (some 1094)) 1069 40 (some 1095)) 1069 41 (some 1096)) 1069 42 (some 1097)) 1069 43 (some 1098)) 1069 44 (some 1099)) 1069 45 (some 1100)) 1069 46 (some 1101)) 1069 47 (some 1102)) 1069 48 (some 1103)) 1069 50 (some 1104)) 1069 51 (some 1105)) 1069 52 (some 1106)) 1069 53 (some 1107)) 1069 54 (some 1108)) 1069 58 (some 1109)) 1069 59 (some 1110)) 1069 60 (some 1111)) 1069 61 (some 1112)) 1069 62 (some 1113)) 1069 63 (some 1114)) 1069 64 (some 1115)) 1069 65 (some 1116)) 1069 66 (some 1117)) 1069 1118 := by
    intro a k x h1 h2 hx
    have ha : a = 1069 ∨ a = 1070 ∨ a = 1071 ∨ a = 1072 ∨ a = 1073 ∨ a = 1074 ∨ a = 1075 ∨ a = 1076 ∨ a = 1077 ∨ a = 1078 ∨ a = 1079 ∨ a = 1080 ∨ a = 1081 ∨ a = 1082 ∨ a = 1083 ∨ a = 1084 ∨ a = 1085 ∨ a = 1086 ∨ a = 1087 ∨ a = 1088 ∨ a = 1089 ∨ a = 1090 ∨ a = 1091 ∨ a = 1092 ∨ a = 1093 ∨ a = 1094 ∨ a = 1095 ∨ a = 1096 ∨ a = 1097 ∨ a = 1098 ∨ a = 1099 ∨ a = 1100 ∨ a = 1101 ∨ a = 1102 ∨ a = 1103 ∨ a = 1104 ∨ a = 1105 ∨ a = 1106 ∨ a = 1107 ∨ a = 1108 ∨ a = 1109 ∨ a = 1110 ∨ a = 1111 ∨ a = 1112 ∨ a = 1113 ∨ a = 1114 ∨ a = 1115 ∨ a = 1116 ∨ a = 1117 := by omega
    rcases ha with rfl | rfl | rfl | rfl | rfl | rfl | rfl | rfl | rfl | rfl | rfl | rfl | rfl | rfl | rfl | rfl | rfl | rfl | rfl | rfl | rfl | rfl | rfl | rfl | rfl | rfl | rfl | rfl | rfl | rfl | rfl | rfl | rfl | rfl | rfl | rfl | rfl | rfl | rfl | rfl | rfl | rfl | rfl | rfl | rfl | rfl | rfl | rfl | rfl
    · replace hx : List.lookup k [(0, 1070), (1, 1071), (3, 1072), (4, 1073), (5, 1074), (6, 1075), (7, 1076), (8, 1077), (9, 1078), (10, 1079), (11, 1080), (12, 1081), (13, 1082), (14, 1083), (15, 1084), (16, 1085), (27, 1086), (28, 1087), (29, 1088), (30, 1089), (31, 1090), (34, 1091), (36, 1092), (37, 1093), (39, 1094), (40, 1095), (41, 1096), (42, 1097), (43, 1098), (44, 1099), (45, 1100), (46, 1101), (47, 1102), (48, 1103), (50, 1104), (51, 1105), (52, 1106), (53, 1107), (54, 1108), (58, 1109), (59, 1110), (60, 1111), (61, 1112), (62, 1113), (63, 1114), (64, 1115), (65, 1116), (66, 1117)] = some x := hx
      rcases lk_c hx with ⟨rfl, rfl⟩ | hx
      · rfl
      rcases lk_c hx with ⟨rfl, rfl⟩ | hx
      · rfl
      rcases lk_c hx with ⟨rfl, rfl⟩ | hx
      · rfl
      rcases lk_c hx with ⟨rfl, rfl⟩ | hx
      · rfl
      rcases lk_c hx with ⟨rfl, rfl⟩ | hx
      · rfl
      rcases lk_c hx with ⟨rfl, rfl⟩ | hx
      · rfl
      rcases lk_c hx with ⟨rfl, rfl⟩ | hx
      · rfl
      rcases lk_c hx with ⟨rfl, rfl⟩ | hx
      · rfl
      rcases lk_c hx with ⟨rfl, rfl⟩ | hx
      · rfl
      rcases lk_c hx with ⟨rfl, rfl⟩ | hx
      · rfl
      rcases lk_c hx with ⟨rfl, rfl⟩ | hx
      · rfl
      rcases lk_c hx with ⟨rfl, rfl⟩ | hx
      · rfl
      rcases lk_c hx with ⟨rfl, rfl⟩ | hx
      · rfl
      rcases lk_c hx with ⟨rfl, rfl⟩ | hx
      · rfl
      rcases lk_c hx with ⟨rfl, rfl⟩ | hx
      · rfl
      rcases lk_c hx with ⟨rfl, rfl⟩ | hx
      · rfl
      rcases lk_c hx with ⟨rfl, rfl⟩ | hx
      · rfl
      rcases lk_c hx with ⟨rfl, rfl⟩ | hx
      · rfl
      rcases lk_c hx with ⟨rfl, rfl⟩ | hx
      · rfl
      rcases lk_c hx with ⟨rfl, rfl⟩ | hx
      · rfl
      rcases lk_c hx with ⟨rfl, rfl⟩ | hx
      · rfl
      rcases lk_c hx with ⟨rfl, rfl⟩ | hx
      · rfl
      rcases lk_c hx with ⟨rfl, rfl⟩ | hx
      · rfl
      rcases lk_c hx with ⟨rfl, rfl⟩ | hx
      · rfl
      rcases lk_c hx with ⟨rfl, rfl⟩ | hx
      · rfl
      rcases lk_c hx with ⟨rfl, rfl⟩ | hx
      · rfl
      rcases lk_c hx with ⟨rfl, rfl⟩ | hx
      · rfl
      rcases lk_c hx with ⟨rfl, rfl⟩ | hx
      · rfl
      rcases lk_c hx with ⟨rfl, rfl⟩ | hx
      · rfl
      rcases lk_c hx with ⟨rfl, rfl⟩ | hx
      · rfl
      rcases lk_c hx with ⟨rfl, rfl⟩ | hx
      · rfl
      rcases lk_c hx with ⟨rfl, rfl⟩ | hx
      · rfl
      rcases lk_c hx with ⟨rfl, rfl⟩ | hx
      · rfl
      rcases lk_c hx with ⟨rfl, rfl⟩ | hx
      · rfl
      rcases lk_c hx with ⟨rfl, rfl⟩ | hx
      · rfl
      rcases lk_c hx with ⟨rfl, rfl⟩ | hx
      · rfl
      rcases lk_c hx with ⟨rfl, rfl⟩ | hx
      · rfl
      rcases lk_c hx with ⟨rfl, rfl⟩ | hx
      · rfl
      rcases lk_c hx with ⟨rfl, rfl⟩ | hx
      · rfl
      rcases lk_c hx with ⟨rfl, rfl⟩ | hx
      · rfl
      rcases lk_c hx with ⟨rfl, rfl⟩ | hx
      · rfl
      rcases lk_c hx with ⟨rfl, rfl⟩ | hx
      · rfl
      rcases lk_c hx with ⟨rfl, rfl⟩ | hx
      · rfl
      rcases lk_c hx with ⟨rfl, rfl⟩ | hx
      · rfl
      rcases lk_c hx with ⟨rfl, rfl⟩ | hx
      · rfl
      rcases lk_c hx with ⟨rfl, rfl⟩ | hx
      · rfl
      rcases lk_c hx with ⟨rfl, rfl⟩ | hx
      · rfl
      rcases lk_c hx with ⟨rfl, rfl⟩ | hx
      · rfl
      exact (lk_n hx).elim
    · replace hx : List.lookup k [(0, 43), (1, 44), (2, 45), (3, 46)] = some x := hx
      rcases lk_c hx with ⟨rfl, rfl⟩ | hx
      · rfl
      rcases lk_c hx with ⟨rfl, rfl⟩ | hx
      · rfl
      rcases lk_c hx with ⟨rfl, rfl⟩ | hx
      · rfl
      rcases lk_c hx with ⟨rfl, rfl⟩ | hx
      · rfl
      exact (lk_n hx).elim
    · replace hx : List.lookup k [(0, 47), (1, 48), (2, 49), (3, 50)] = some x := hx
      rcases lk_c hx with ⟨rfl, rfl⟩ | hx
      · rfl
      rcases lk_c hx with ⟨rfl, rfl⟩ | hx
      · rfl
      rcases lk_c hx with ⟨rfl, rfl⟩ | hx
      · rfl
      rcases lk_c hx with ⟨rfl, rfl⟩ | hx
      · rfl
      exact (lk_n hx).elim
    · exact (lk_n (k := k) (x := x) hx).elim
    · exact (lk_n (k := k) (x := x) hx).elim
    · exact (lk_n (k := k) (x := x) hx).elim
    · exact (lk_n (k := k) (x := x) hx).elim
    · exact (lk_n (k := k) (x := x) hx).elim
    · exact (lk_n (k := k) (x := x) hx).elim
    · exact (lk_n (k := k) (x := x) hx).elim
    · exact (lk_n (k := k) (x := x) hx).elim
    · exact (lk_n (k := k) (x := x) hx).elim
    · exact (lk_n (k := k) (x := x) hx).elim
    · exact (lk_n (k := k) (x := x) hx).elim
    · exact (lk_n (k := k) (x := x) hx).elim
    · exact (lk_n (k := k) (x := x) hx).elim
    · exact (lk_n (k := k) (x := x) hx).elim
    · exact (lk_n (k := k) (x := x) hx).elim
    · exact (lk_n (k := k) (x := x) hx).elim
    · exact (lk_n (k := k) (x := x) hx).elim
    · exact (lk_n (k := k) (x := x) hx).elim
    · exact (lk_n (k := k) (x := x) hx).elim
    · exact (lk_n (k := k) (x := x) hx).elim
    · exact (lk_n (k := k) (x := x) hx).elim
    · exact (lk_n (k := k) (x := x) hx).elim
    · exact (lk_n (k := k) (x := x) hx).elim
    · exact (lk_n (k := k) (x := x) hx).elim
    · exact (lk_n (k := k) (x := x) hx).elim
    · exact (lk_n (k := k) (x := x) hx).elim
    · exact (lk_n (k := k) (x := x) hx).elim
    · exact (lk_n (k := k) (x := x) hx).elim
    · exact (lk_n (k := k) (x := x) hx).elim
    · exact (lk_n (k := k) (x := x) hx).elim
    · exact (lk_n (k := k) (x := x) hx).elim
    · exact (lk_n (k := k) (x := x) hx).elim
    · exact (lk_n (k := k) (x := x) hx).elim
    · exact (lk_n (k := k) (x := x) hx).elim
    · exact (lk_n (k := k) (x := x) hx).elim
    · exact (lk_n (k := k) (x := x) hx).elim
    · exact (lk_n (k := k) (x := x) hx).elim
    · exact (lk_n (k := k) (x := x) hx).elim
    · exact (lk_n (k := k) (x := x) hx).elim
    · exact (lk_n (k := k) (x := x) hx).elim
    · exact (lk_n (k := k) (x := x) hx).elim
    · exact (lk_n (k := k) (x := x) hx).elim
    · exact (lk_n (k := k) (x := x) hx).elim
    · exact (lk_n (k := k) (x := x) hx).elim
    · exact (lk_n (k := k) (x := x) hx).elim
    · exact (lk_n (k := k) (x := x) hx).elim
  refine jx_aload_n dX11_init_0 rfl ?_
  refine jx_objInit dX11_init_1 mlX11_1 oi_in oi_co (Nat.le_of_ble_eq_true rfl) ?_
  refine jx_aload_n dX11_init_4 rfl ?_
  refine jx_iconst (v := 4) dX11_init_5 (by decide) ?_
  refine jx_anew (t := 6) (m := 4) (C := "java/lang/String") dX11_init_6 clX11_7 (jm6 155 rfl) rfl (by decide) rfl (by decide) (fun k => hz _ (by decide) k) (by decide) (by decide) ?_
  refine jx_dup dX11_init_9 rfl ?_
  refine jx_iconst (v := 0) dX11_init_10 (by decide) ?_
  refine jx_ldcS 43 dX11_init_11 rfl rfl rfl (by decide) ?_
  refine jx_aast6 0 dX11_init_13 ((shN_lt (by decide)).trans rfl) rfl (by decide) (by decide) rfl (by decide) ?_
  refine jx_dup dX11_init_14 rfl ?_
  refine jx_iconst (v := 1) dX11_init_15 (by decide) ?_
  refine jx_ldcS 44 dX11_init_16 rfl rfl rfl (by decide) ?_
  refine jx_aast6 1 dX11_init_18 ((shN_lt (by decide)).trans rfl) rfl (by decide) (by decide) rfl (by decide) ?_
  refine jx_dup dX11_init_19 rfl ?_
  refine jx_iconst (v := 2) dX11_init_20 (by decide) ?_
  refine jx_ldcS 45 dX11_init_21 rfl rfl rfl (by decide) ?_
  refine jx_aast6 2 dX11_init_23 ((shN_lt (by decide)).trans rfl) rfl (by decide) (by decide) rfl (by decide) ?_
  refine jx_dup dX11_init_24 rfl ?_
  refine jx_iconst (v := 3) dX11_init_25 (by decide) ?_
  refine jx_ldcS 46 dX11_init_26 rfl rfl rfl (by decide) ?_
  refine jx_aast6 3 dX11_init_28 ((shN_lt (by decide)).trans rfl) rfl (by decide) (by decide) rfl (by decide) ?_
  refine jx_putF (ci := 11) (k := 0) dX11_init_29 rfl jclX11 (by decide) (jm6 175 rfl) ((shN_lt (by decide)).trans rfl) rfl rfl rfl rfl ?_
  refine jx_aload_n dX11_init_32 rfl ?_
  refine jx_iconst (v := 4) dX11_init_33 (by decide) ?_
  refine jx_anew (t := 6) (m := 4) (C := "java/lang/String") dX11_init_34 clX11_7 (jm6 155 rfl) rfl (by decide) rfl (by decide) (fun k => hz _ (by decide) k) (by decide) (by decide) ?_
  refine jx_dup dX11_init_37 rfl ?_
  refine jx_iconst (v := 0) dX11_init_38 (by decide) ?_
  refine jx_ldcS 47 dX11_init_39 rfl rfl rfl (by decide) ?_
  refine jx_aast6 0 dX11_init_41 ((shN_lt (by decide)).trans rfl) rfl (by decide) (by decide) rfl (by decide) ?_
  refine jx_dup dX11_init_42 rfl ?_
  refine jx_iconst (v := 1) dX11_init_43 (by decide) ?_
  refine jx_ldcS 48 dX11_init_44 rfl rfl rfl (by decide) ?_
  refine jx_aast6 1 dX11_init_46 ((shN_lt (by decide)).trans rfl) rfl (by decide) (by decide) rfl (by decide) ?_
  refine jx_dup dX11_init_47 rfl ?_
  refine jx_iconst (v := 2) dX11_init_48 (by decide) ?_
  refine jx_ldcS 49 dX11_init_49 rfl rfl rfl (by decide) ?_
  refine jx_aast6 2 dX11_init_51 ((shN_lt (by decide)).trans rfl) rfl (by decide) (by decide) rfl (by decide) ?_
  refine jx_dup dX11_init_52 rfl ?_
  refine jx_iconst (v := 3) dX11_init_53 (by decide) ?_
  refine jx_ldcS 50 dX11_init_54 rfl rfl rfl (by decide) ?_
  refine jx_aast6 3 dX11_init_56 ((shN_lt (by decide)).trans rfl) rfl (by decide) (by decide) rfl (by decide) ?_
  refine jx_putF (ci := 11) (k := 1) dX11_init_57 rfl jclX11 (by decide) (jm6 176 rfl) ((shN_lt (by decide)).trans rfl) rfl rfl rfl rfl ?_
  refine jx_aload_n dX11_init_60 rfl ?_
  refine jx_bipush (v := 34) dX11_init_61 (by decide) ?_
  refine jx_newarr (t := 1) (m := 34) dX11_init_63 ac_int rfl (by decide) rfl (by decide) (fun k => hz _ (by decide) k) (by decide) (by decide) ?_
  refine jx_putF (ci := 11) (k := 3) dX11_init_65 rfl jclX11 (by decide) (jm6 178 rfl) ((shN_lt (by decide)).trans rfl) rfl rfl rfl rfl ?_
  refine jx_aload_n dX11_init_68 rfl ?_
  refine jx_bipush (v := 126) dX11_init_69 (by decide) ?_
  refine jx_newarr (t := 1) (m := 126) dX11_init_71 ac_int rfl (by decide) rfl (by decide) (fun k => hz _ (by decide) k) (by decide) (by decide) ?_
  refine jx_putF (ci := 11) (k := 4) dX11_init_73 rfl jclX11 (by decide) (jm6 179 rfl) ((shN_lt (by decide)).trans rfl) rfl rfl rfl rfl ?_
  refine jx_aload_n dX11_init_76 rfl ?_
  refine jx_bipush (v := 126) dX11_init_77 (by decide) ?_
  refine jx_newarr (t := 1) (m := 126) dX11_init_79 ac_int rfl (by decide) rfl (by decide) (fun k => hz _ (by decide) k) (by decide) (by decide) ?_
  refine jx_putF (ci := 11) (k := 5) dX11_init_81 rfl jclX11 (by decide) (jm6 180 rfl) ((shN_lt (by decide)).trans rfl) rfl rfl rfl rfl ?_
  refine jx_aload_n dX11_init_84 rfl ?_
  refine jx_bipush (v := 24) dX11_init_85 (by decide) ?_
  refine jx_newarr (t := 1) (m := 24) dX11_init_87 ac_int rfl (by decide) rfl (by decide) (fun k => hz _ (by decide) k) (by decide) (by decide) ?_
  refine jx_putF (ci := 11) (k := 6) dX11_init_89 rfl jclX11 (by decide) (jm6 181 rfl) ((shN_lt (by decide)).trans rfl) rfl rfl rfl rfl ?_
  refine jx_aload_n dX11_init_92 rfl ?_
  refine jx_bipush (v := 12) dX11_init_93 (by decide) ?_
  refine jx_newarr (t := 1) (m := 12) dX11_init_95 ac_int rfl (by decide) rfl (by decide) (fun k => hz _ (by decide) k) (by decide) (by decide) ?_
  refine jx_putF (ci := 11) (k := 7) dX11_init_97 rfl jclX11 (by decide) (jm6 182 rfl) ((shN_lt (by decide)).trans rfl) rfl rfl rfl rfl ?_
  refine jx_aload_n dX11_init_100 rfl ?_
  refine jx_bipush (v := 12) dX11_init_101 (by decide) ?_
  refine jx_newarr (t := 1) (m := 12) dX11_init_103 ac_int rfl (by decide) rfl (by decide) (fun k => hz _ (by decide) k) (by decide) (by decide) ?_
  refine jx_putF (ci := 11) (k := 8) dX11_init_105 rfl jclX11 (by decide) (jm6 183 rfl) ((shN_lt (by decide)).trans rfl) rfl rfl rfl rfl ?_
  refine jx_aload_n dX11_init_108 rfl ?_
  refine jx_bipush (v := 12) dX11_init_109 (by decide) ?_
  refine jx_newarr (t := 1) (m := 12) dX11_init_111 ac_int rfl (by decide) rfl (by decide) (fun k => hz _ (by decide) k) (by decide) (by decide) ?_
  refine jx_putF (ci := 11) (k := 9) dX11_init_113 rfl jclX11 (by decide) (jm6 184 rfl) ((shN_lt (by decide)).trans rfl) rfl rfl rfl rfl ?_
  refine jx_aload_n dX11_init_116 rfl ?_
  refine jx_bipush (v := 12) dX11_init_117 (by decide) ?_
  refine jx_newarr (t := 1) (m := 12) dX11_init_119 ac_int rfl (by decide) rfl (by decide) (fun k => hz _ (by decide) k) (by decide) (by decide) ?_
  refine jx_putF (ci := 11) (k := 10) dX11_init_121 rfl jclX11 (by decide) (jm6 185 rfl) ((shN_lt (by decide)).trans rfl) rfl rfl rfl rfl ?_
  refine jx_aload_n dX11_init_124 rfl ?_
  refine jx_bipush (v := 12) dX11_init_125 (by decide) ?_
  refine jx_newarr (t := 1) (m := 12) dX11_init_127 ac_int rfl (by decide) rfl (by decide) (fun k => hz _ (by decide) k) (by decide) (by decide) ?_
  refine jx_putF (ci := 11) (k := 11) dX11_init_129 rfl jclX11 (by decide) (jm6 186 rfl) ((shN_lt (by decide)).trans rfl) rfl rfl rfl rfl ?_
  refine jx_aload_n dX11_init_132 rfl ?_
  refine jx_bipush (v := 12) dX11_init_133 (by decide) ?_
  refine jx_newarr (t := 1) (m := 12) dX11_init_135 ac_int rfl (by decide) rfl (by decide) (fun k => hz _ (by decide) k) (by decide) (by decide) ?_
  refine jx_putF (ci := 11) (k := 12) dX11_init_137 rfl jclX11 (by decide) (jm6 187 rfl) ((shN_lt (by decide)).trans rfl) rfl rfl rfl rfl ?_
  refine jx_aload_n dX11_init_140 rfl ?_
  refine jx_sipush (v := 1400) dX11_init_141 (by decide) ?_
  refine jx_newarr (t := 1) (m := 1400) dX11_init_144 ac_int rfl (by decide) rfl (by decide) (fun k => hz _ (by decide) k) (by decide) (by decide) ?_
  refine jx_putF (ci := 11) (k := 13) dX11_init_146 rfl jclX11 (by decide) (jm6 188 rfl) ((shN_lt (by decide)).trans rfl) rfl rfl rfl rfl ?_
  refine jx_aload_n dX11_init_149 rfl ?_
  refine jx_iconst (v := 3) dX11_init_150 (by decide) ?_
  refine jx_newarr (t := 1) (m := 3) dX11_init_151 ac_int rfl (by decide) rfl (by decide) (fun k => hz _ (by decide) k) (by decide) (by decide) ?_
  refine jx_putF (ci := 11) (k := 14) dX11_init_153 rfl jclX11 (by decide) (jm6 189 rfl) ((shN_lt (by decide)).trans rfl) rfl rfl rfl rfl ?_
  refine jx_aload_n dX11_init_156 rfl ?_
  refine jx_bipush (v := 63) dX11_init_157 (by decide) ?_
  refine jx_newarr (t := 3) (m := 63) dX11_init_159 ac_boolean rfl (by decide) rfl (by decide) (fun k => hz _ (by decide) k) (by decide) (by decide) ?_
  refine jx_putF (ci := 11) (k := 15) dX11_init_161 rfl jclX11 (by decide) (jm6 190 rfl) ((shN_lt (by decide)).trans rfl) rfl rfl rfl rfl ?_
  refine jx_aload_n dX11_init_164 rfl ?_
  refine jx_sipush (v := 700) dX11_init_165 (by decide) ?_
  refine jx_newarr (t := 1) (m := 700) dX11_init_168 ac_int rfl (by decide) rfl (by decide) (fun k => hz _ (by decide) k) (by decide) (by decide) ?_
  refine jx_putF (ci := 11) (k := 16) dX11_init_170 rfl jclX11 (by decide) (jm6 191 rfl) ((shN_lt (by decide)).trans rfl) rfl rfl rfl rfl ?_
  refine jx_aload_n dX11_init_173 rfl ?_
  refine jx_iconst (v := -1) dX11_init_174 (by decide) ?_
  refine jx_putI dX11_init_175 flX11_78 ((shN_lt (by decide)).trans rfl) rfl (fun r h => by cases h; rfl) ?_
  refine jx_aload_n dX11_init_178 rfl ?_
  refine jx_iconst (v := 4) dX11_init_179 (by decide) ?_
  refine jx_newarr (t := 1) (m := 4) dX11_init_180 ac_int rfl (by decide) rfl (by decide) (fun k => hz _ (by decide) k) (by decide) (by decide) ?_
  refine jx_putF (ci := 11) (k := 27) dX11_init_182 rfl jclX11 (by decide) (jm6 202 rfl) ((shN_lt (by decide)).trans rfl) rfl rfl rfl rfl ?_
  refine jx_aload_n dX11_init_185 rfl ?_
  refine jx_bipush (v := 64) dX11_init_186 (by decide) ?_
  refine jx_newarr (t := 1) (m := 64) dX11_init_188 ac_int rfl (by decide) rfl (by decide) (fun k => hz _ (by decide) k) (by decide) (by decide) ?_
  refine jx_putF (ci := 11) (k := 28) dX11_init_190 rfl jclX11 (by decide) (jm6 203 rfl) ((shN_lt (by decide)).trans rfl) rfl rfl rfl rfl ?_
  refine jx_aload_n dX11_init_193 rfl ?_
  refine jx_bipush (v := 96) dX11_init_194 (by decide) ?_
  refine jx_newarr (t := 1) (m := 96) dX11_init_196 ac_int rfl (by decide) rfl (by decide) (fun k => hz _ (by decide) k) (by decide) (by decide) ?_
  refine jx_putF (ci := 11) (k := 29) dX11_init_198 rfl jclX11 (by decide) (jm6 204 rfl) ((shN_lt (by decide)).trans rfl) rfl rfl rfl rfl ?_
  refine jx_aload_n dX11_init_201 rfl ?_
  refine jx_bipush (v := 63) dX11_init_202 (by decide) ?_
  refine jx_newarr (t := 3) (m := 63) dX11_init_204 ac_boolean rfl (by decide) rfl (by decide) (fun k => hz _ (by decide) k) (by decide) (by decide) ?_
  refine jx_putF (ci := 11) (k := 30) dX11_init_206 rfl jclX11 (by decide) (jm6 205 rfl) ((shN_lt (by decide)).trans rfl) rfl rfl rfl rfl ?_
  refine jx_aload_n dX11_init_209 rfl ?_
  refine jx_sipush (v := 6048) dX11_init_210 (by decide) ?_
  refine jx_newarr (t := 3) (m := 6048) dX11_init_213 ac_boolean rfl (by decide) rfl (by decide) (fun k => hz _ (by decide) k) (by decide) (by decide) ?_
  refine jx_putF (ci := 11) (k := 31) dX11_init_215 rfl jclX11 (by decide) (jm6 206 rfl) ((shN_lt (by decide)).trans rfl) rfl rfl rfl rfl ?_
  refine jx_aload_n dX11_init_218 rfl ?_
  refine jx_sipush (v := 6048) dX11_init_219 (by decide) ?_
  refine jx_newarr (t := 1) (m := 6048) dX11_init_222 ac_int rfl (by decide) rfl (by decide) (fun k => hz _ (by decide) k) (by decide) (by decide) ?_
  refine jx_putF (ci := 11) (k := 34) dX11_init_224 rfl jclX11 (by decide) (jm6 209 rfl) ((shN_lt (by decide)).trans rfl) rfl rfl rfl rfl ?_
  refine jx_aload_n dX11_init_227 rfl ?_
  refine jx_bipush (v := 96) dX11_init_228 (by decide) ?_
  refine jx_newarr (t := 1) (m := 96) dX11_init_230 ac_int rfl (by decide) rfl (by decide) (fun k => hz _ (by decide) k) (by decide) (by decide) ?_
  refine jx_putF (ci := 11) (k := 36) dX11_init_232 rfl jclX11 (by decide) (jm6 211 rfl) ((shN_lt (by decide)).trans rfl) rfl rfl rfl rfl ?_
  refine jx_aload_n dX11_init_235 rfl ?_
  refine jx_bipush (v := 96) dX11_init_236 (by decide) ?_
  refine jx_newarr (t := 1) (m := 96) dX11_init_238 ac_int rfl (by decide) rfl (by decide) (fun k => hz _ (by decide) k) (by decide) (by decide) ?_
  refine jx_putF (ci := 11) (k := 37) dX11_init_240 rfl jclX11 (by decide) (jm6 212 rfl) ((shN_lt (by decide)).trans rfl) rfl rfl rfl rfl ?_
  refine jx_aload_n dX11_init_243 rfl ?_
  refine jx_iconst (v := -1) dX11_init_244 (by decide) ?_
  refine jx_putI dX11_init_245 flX11_106 ((shN_lt (by decide)).trans rfl) rfl (fun r h => by cases h; rfl) ?_
  refine jx_aload_n dX11_init_248 rfl ?_
  refine jx_bipush (v := 12) dX11_init_249 (by decide) ?_
  refine jx_newarr (t := 1) (m := 12) dX11_init_251 ac_int rfl (by decide) rfl (by decide) (fun k => hz _ (by decide) k) (by decide) (by decide) ?_
  refine jx_putF (ci := 11) (k := 39) dX11_init_253 rfl jclX11 (by decide) (jm6 214 rfl) ((shN_lt (by decide)).trans rfl) rfl rfl rfl rfl ?_
  refine jx_aload_n dX11_init_256 rfl ?_
  refine jx_bipush (v := 12) dX11_init_257 (by decide) ?_
  refine jx_newarr (t := 1) (m := 12) dX11_init_259 ac_int rfl (by decide) rfl (by decide) (fun k => hz _ (by decide) k) (by decide) (by decide) ?_
  refine jx_putF (ci := 11) (k := 40) dX11_init_261 rfl jclX11 (by decide) (jm6 215 rfl) ((shN_lt (by decide)).trans rfl) rfl rfl rfl rfl ?_
  refine jx_aload_n dX11_init_264 rfl ?_
  refine jx_bipush (v := 12) dX11_init_265 (by decide) ?_
  refine jx_newarr (t := 1) (m := 12) dX11_init_267 ac_int rfl (by decide) rfl (by decide) (fun k => hz _ (by decide) k) (by decide) (by decide) ?_
  refine jx_putF (ci := 11) (k := 41) dX11_init_269 rfl jclX11 (by decide) (jm6 216 rfl) ((shN_lt (by decide)).trans rfl) rfl rfl rfl rfl ?_
  refine jx_aload_n dX11_init_272 rfl ?_
  refine jx_bipush (v := 12) dX11_init_273 (by decide) ?_
  refine jx_newarr (t := 1) (m := 12) dX11_init_275 ac_int rfl (by decide) rfl (by decide) (fun k => hz _ (by decide) k) (by decide) (by decide) ?_
  refine jx_putF (ci := 11) (k := 42) dX11_init_277 rfl jclX11 (by decide) (jm6 217 rfl) ((shN_lt (by decide)).trans rfl) rfl rfl rfl rfl ?_
  refine jx_aload_n dX11_init_280 rfl ?_
  refine jx_sipush (v := 1152) dX11_init_281 (by decide) ?_
  refine jx_newarr (t := 1) (m := 1152) dX11_init_284 ac_int rfl (by decide) rfl (by decide) (fun k => hz _ (by decide) k) (by decide) (by decide) ?_
  refine jx_putF (ci := 11) (k := 43) dX11_init_286 rfl jclX11 (by decide) (jm6 218 rfl) ((shN_lt (by decide)).trans rfl) rfl rfl rfl rfl ?_
  refine jx_aload_n dX11_init_289 rfl ?_
  refine jx_sipush (v := 246) dX11_init_290 (by decide) ?_
  refine jx_newarr (t := 3) (m := 246) dX11_init_293 ac_boolean rfl (by decide) rfl (by decide) (fun k => hz _ (by decide) k) (by decide) (by decide) ?_
  refine jx_putF (ci := 11) (k := 44) dX11_init_295 rfl jclX11 (by decide) (jm6 219 rfl) ((shN_lt (by decide)).trans rfl) rfl rfl rfl rfl ?_
  refine jx_aload_n dX11_init_298 rfl ?_
  refine jx_sipush (v := 246) dX11_init_299 (by decide) ?_
  refine jx_newarr (t := 1) (m := 246) dX11_init_302 ac_int rfl (by decide) rfl (by decide) (fun k => hz _ (by decide) k) (by decide) (by decide) ?_
  refine jx_putF (ci := 11) (k := 45) dX11_init_304 rfl jclX11 (by decide) (jm6 220 rfl) ((shN_lt (by decide)).trans rfl) rfl rfl rfl rfl ?_
  refine jx_aload_n dX11_init_307 rfl ?_
  refine jx_bipush (v := 6) dX11_init_308 (by decide) ?_
  refine jx_newarr (t := 1) (m := 6) dX11_init_310 ac_int rfl (by decide) rfl (by decide) (fun k => hz _ (by decide) k) (by decide) (by decide) ?_
  refine jx_putF (ci := 11) (k := 46) dX11_init_312 rfl jclX11 (by decide) (jm6 221 rfl) ((shN_lt (by decide)).trans rfl) rfl rfl rfl rfl ?_
  refine jx_aload_n dX11_init_315 rfl ?_
  refine jx_bipush (v := 6) dX11_init_316 (by decide) ?_
  refine jx_newarr (t := 1) (m := 6) dX11_init_318 ac_int rfl (by decide) rfl (by decide) (fun k => hz _ (by decide) k) (by decide) (by decide) ?_
  refine jx_putF (ci := 11) (k := 47) dX11_init_320 rfl jclX11 (by decide) (jm6 222 rfl) ((shN_lt (by decide)).trans rfl) rfl rfl rfl rfl ?_
  refine jx_aload_n dX11_init_323 rfl ?_
  refine jx_bipush (v := 41) dX11_init_324 (by decide) ?_
  refine jx_newarr (t := 1) (m := 41) dX11_init_326 ac_int rfl (by decide) rfl (by decide) (fun k => hz _ (by decide) k) (by decide) (by decide) ?_
  refine jx_putF (ci := 11) (k := 48) dX11_init_328 rfl jclX11 (by decide) (jm6 223 rfl) ((shN_lt (by decide)).trans rfl) rfl rfl rfl rfl ?_
  refine jx_aload_n dX11_init_331 rfl ?_
  refine jx_bipush (v := 12) dX11_init_332 (by decide) ?_
  refine jx_newarr (t := 1) (m := 12) dX11_init_334 ac_int rfl (by decide) rfl (by decide) (fun k => hz _ (by decide) k) (by decide) (by decide) ?_
  refine jx_putF (ci := 11) (k := 50) dX11_init_336 rfl jclX11 (by decide) (jm6 225 rfl) ((shN_lt (by decide)).trans rfl) rfl rfl rfl rfl ?_
  refine jx_aload_n dX11_init_339 rfl ?_
  refine jx_bipush (v := 12) dX11_init_340 (by decide) ?_
  refine jx_newarr (t := 1) (m := 12) dX11_init_342 ac_int rfl (by decide) rfl (by decide) (fun k => hz _ (by decide) k) (by decide) (by decide) ?_
  refine jx_putF (ci := 11) (k := 51) dX11_init_344 rfl jclX11 (by decide) (jm6 226 rfl) ((shN_lt (by decide)).trans rfl) rfl rfl rfl rfl ?_
  refine jx_aload_n dX11_init_347 rfl ?_
  refine jx_bipush (v := 12) dX11_init_348 (by decide) ?_
  refine jx_newarr (t := 3) (m := 12) dX11_init_350 ac_boolean rfl (by decide) rfl (by decide) (fun k => hz _ (by decide) k) (by decide) (by decide) ?_
  refine jx_putF (ci := 11) (k := 52) dX11_init_352 rfl jclX11 (by decide) (jm6 227 rfl) ((shN_lt (by decide)).trans rfl) rfl rfl rfl rfl ?_
  refine jx_aload_n dX11_init_355 rfl ?_
  refine jx_bipush (v := 6) dX11_init_356 (by decide) ?_
  refine jx_newarr (t := 3) (m := 6) dX11_init_358 ac_boolean rfl (by decide) rfl (by decide) (fun k => hz _ (by decide) k) (by decide) (by decide) ?_
  refine jx_putF (ci := 11) (k := 53) dX11_init_360 rfl jclX11 (by decide) (jm6 228 rfl) ((shN_lt (by decide)).trans rfl) rfl rfl rfl rfl ?_
  refine jx_aload_n dX11_init_363 rfl ?_
  refine jx_bipush (v := 6) dX11_init_364 (by decide) ?_
  refine jx_newarr (t := 3) (m := 6) dX11_init_366 ac_boolean rfl (by decide) rfl (by decide) (fun k => hz _ (by decide) k) (by decide) (by decide) ?_
  refine jx_putF (ci := 11) (k := 54) dX11_init_368 rfl jclX11 (by decide) (jm6 229 rfl) ((shN_lt (by decide)).trans rfl) rfl rfl rfl rfl ?_
  refine jx_aload_n dX11_init_371 rfl ?_
  refine jx_bipush (v := 12) dX11_init_372 (by decide) ?_
  refine jx_newarr (t := 1) (m := 12) dX11_init_374 ac_int rfl (by decide) rfl (by decide) (fun k => hz _ (by decide) k) (by decide) (by decide) ?_
  refine jx_putF (ci := 11) (k := 58) dX11_init_376 rfl jclX11 (by decide) (jm6 233 rfl) ((shN_lt (by decide)).trans rfl) rfl rfl rfl rfl ?_
  refine jx_aload_n dX11_init_379 rfl ?_
  refine jx_bipush (v := 12) dX11_init_380 (by decide) ?_
  refine jx_newarr (t := 1) (m := 12) dX11_init_382 ac_int rfl (by decide) rfl (by decide) (fun k => hz _ (by decide) k) (by decide) (by decide) ?_
  refine jx_putF (ci := 11) (k := 59) dX11_init_384 rfl jclX11 (by decide) (jm6 234 rfl) ((shN_lt (by decide)).trans rfl) rfl rfl rfl rfl ?_
  refine jx_aload_n dX11_init_387 rfl ?_
  refine jx_bipush (v := 12) dX11_init_388 (by decide) ?_
  refine jx_newarr (t := 1) (m := 12) dX11_init_390 ac_int rfl (by decide) rfl (by decide) (fun k => hz _ (by decide) k) (by decide) (by decide) ?_
  refine jx_putF (ci := 11) (k := 60) dX11_init_392 rfl jclX11 (by decide) (jm6 235 rfl) ((shN_lt (by decide)).trans rfl) rfl rfl rfl rfl ?_
  refine jx_aload_n dX11_init_395 rfl ?_
  refine jx_bipush (v := 12) dX11_init_396 (by decide) ?_
  refine jx_newarr (t := 1) (m := 12) dX11_init_398 ac_int rfl (by decide) rfl (by decide) (fun k => hz _ (by decide) k) (by decide) (by decide) ?_
  refine jx_putF (ci := 11) (k := 61) dX11_init_400 rfl jclX11 (by decide) (jm6 236 rfl) ((shN_lt (by decide)).trans rfl) rfl rfl rfl rfl ?_
  refine jx_aload_n dX11_init_403 rfl ?_
  refine jx_sipush (v := 1152) dX11_init_404 (by decide) ?_
  refine jx_newarr (t := 1) (m := 1152) dX11_init_407 ac_int rfl (by decide) rfl (by decide) (fun k => hz _ (by decide) k) (by decide) (by decide) ?_
  refine jx_putF (ci := 11) (k := 62) dX11_init_409 rfl jclX11 (by decide) (jm6 237 rfl) ((shN_lt (by decide)).trans rfl) rfl rfl rfl rfl ?_
  refine jx_aload_n dX11_init_412 rfl ?_
  refine jx_bipush (v := 12) dX11_init_413 (by decide) ?_
  refine jx_newarr (t := 1) (m := 12) dX11_init_415 ac_int rfl (by decide) rfl (by decide) (fun k => hz _ (by decide) k) (by decide) (by decide) ?_
  refine jx_putF (ci := 11) (k := 63) dX11_init_417 rfl jclX11 (by decide) (jm6 238 rfl) ((shN_lt (by decide)).trans rfl) rfl rfl rfl rfl ?_
  refine jx_aload_n dX11_init_420 rfl ?_
  refine jx_bipush (v := 12) dX11_init_421 (by decide) ?_
  refine jx_newarr (t := 1) (m := 12) dX11_init_423 ac_int rfl (by decide) rfl (by decide) (fun k => hz _ (by decide) k) (by decide) (by decide) ?_
  refine jx_putF (ci := 11) (k := 64) dX11_init_425 rfl jclX11 (by decide) (jm6 239 rfl) ((shN_lt (by decide)).trans rfl) rfl rfl rfl rfl ?_
  refine jx_aload_n dX11_init_428 rfl ?_
  refine jx_iconst (v := 3) dX11_init_429 (by decide) ?_
  refine jx_newarr (t := 1) (m := 3) dX11_init_430 ac_int rfl (by decide) rfl (by decide) (fun k => hz _ (by decide) k) (by decide) (by decide) ?_
  refine jx_putF (ci := 11) (k := 65) dX11_init_432 rfl jclX11 (by decide) (jm7 0 rfl) ((shN_lt (by decide)).trans rfl) rfl rfl rfl rfl ?_
  refine jx_aload_n dX11_init_435 rfl ?_
  refine jx_bipush (v := 12) dX11_init_436 (by decide) ?_
  refine jx_newarr (t := 3) (m := 12) dX11_init_438 ac_boolean rfl (by decide) rfl (by decide) (fun k => hz _ (by decide) k) (by decide) (by decide) ?_
  refine jx_putF (ci := 11) (k := 66) dX11_init_440 rfl jclX11 (by decide) (jm7 1 rfl) ((shN_lt (by decide)).trans rfl) rfl rfl rfl rfl ?_
  refine jx_aload_n dX11_init_443 rfl ?_
  refine jx_invV (a := 1069) (ci := 11) (r := (RX11, TX11, 67)) (as := []) dX11_init_444 mlX11_181 okX11_begin viX11_begin rfl ((shN_lt (N := 1118) (a := 1069) (by decide)).trans rfl) rfl rfl rfl (by decide) (Nat.zero_le _) (Nat.zero_le _) (Nat.le_of_ble_eq_true rfl) (gX11_begin hW hRS (by decide)) (fun v444 t444 hq444 => ?_) (fun _ _ h => h.elim)
  obtain ⟨rfl, rfl⟩ := hq444
  refine jx_aload_n dX11_init_447 rfl ?_
  refine jx_invV (a := 1069) (ci := 11) (r := (RX11, TX11, 67)) (as := []) dX11_init_448 mlX11_184 okX11_takeOver viX11_takeOver rfl ((shN_lt (N := 1118) (a := 1069) (by decide)).trans rfl) rfl rfl rfl (by decide) (Nat.zero_le _) (Nat.zero_le _) (Nat.le_of_ble_eq_true rfl) (gX11_takeOver hW hRS (by decide)) (fun v448 t448 hq448 => ?_) (fun _ _ h => h.elim)
  obtain ⟨rfl, rfl⟩ := hq448
  refine jx_vret dX11_init_451 rfl ?_
  refine ⟨rfl, _, rfl, fun a k ha => ?_, hRS, fun a k ha => ?_⟩
  · rw [upR_n (show ¬ (a = 1069 ∧ k = 66) by omega), upR_n (show ¬ (a = 1069 ∧ k = 65) by omega), upR_n (show ¬ (a = 1069 ∧ k = 64) by omega), upR_n (show ¬ (a = 1069 ∧ k = 63) by omega), upR_n (show ¬ (a = 1069 ∧ k = 62) by omega), upR_n (show ¬ (a = 1069 ∧ k = 61) by omega), upR_n (show ¬ (a = 1069 ∧ k = 60) by omega), upR_n (show ¬ (a = 1069 ∧ k = 59) by omega), upR_n (show ¬ (a = 1069 ∧ k = 58) by omega), upR_n (show ¬ (a = 1069 ∧ k = 54) by omega), upR_n (show ¬ (a = 1069 ∧ k = 53) by omega), upR_n (show ¬ (a = 1069 ∧ k = 52) by omega), upR_n (show ¬ (a = 1069 ∧ k = 51) by omega), upR_n (show ¬ (a = 1069 ∧ k = 50) by omega), upR_n (show ¬ (a = 1069 ∧ k = 48) by omega), upR_n (show ¬ (a = 1069 ∧ k = 47) by omega), upR_n (show ¬ (a = 1069 ∧ k = 46) by omega), upR_n (show ¬ (a = 1069 ∧ k = 45) by omega), upR_n (show ¬ (a = 1069 ∧ k = 44) by omega), upR_n (show ¬ (a = 1069 ∧ k = 43) by omega), upR_n (show ¬ (a = 1069 ∧ k = 42) by omega), upR_n (show ¬ (a = 1069 ∧ k = 41) by omega), upR_n (show ¬ (a = 1069 ∧ k = 40) by omega), upR_n (show ¬ (a = 1069 ∧ k = 39) by omega), upR_n (show ¬ (a = 1069 ∧ k = 37) by omega), upR_n (show ¬ (a = 1069 ∧ k = 36) by omega), upR_n (show ¬ (a = 1069 ∧ k = 34) by omega), upR_n (show ¬ (a = 1069 ∧ k = 31) by omega), upR_n (show ¬ (a = 1069 ∧ k = 30) by omega), upR_n (show ¬ (a = 1069 ∧ k = 29) by omega), upR_n (show ¬ (a = 1069 ∧ k = 28) by omega), upR_n (show ¬ (a = 1069 ∧ k = 27) by omega), upR_n (show ¬ (a = 1069 ∧ k = 16) by omega), upR_n (show ¬ (a = 1069 ∧ k = 15) by omega), upR_n (show ¬ (a = 1069 ∧ k = 14) by omega), upR_n (show ¬ (a = 1069 ∧ k = 13) by omega), upR_n (show ¬ (a = 1069 ∧ k = 12) by omega), upR_n (show ¬ (a = 1069 ∧ k = 11) by omega), upR_n (show ¬ (a = 1069 ∧ k = 10) by omega), upR_n (show ¬ (a = 1069 ∧ k = 9) by omega), upR_n (show ¬ (a = 1069 ∧ k = 8) by omega), upR_n (show ¬ (a = 1069 ∧ k = 7) by omega), upR_n (show ¬ (a = 1069 ∧ k = 6) by omega), upR_n (show ¬ (a = 1069 ∧ k = 5) by omega), upR_n (show ¬ (a = 1069 ∧ k = 4) by omega), upR_n (show ¬ (a = 1069 ∧ k = 3) by omega), upR_n (show ¬ (a = 1069 ∧ k = 1) by omega), upR_n (show ¬ (a = 1071 ∧ k = 3) by omega), upR_n (show ¬ (a = 1071 ∧ k = 2) by omega), upR_n (show ¬ (a = 1071 ∧ k = 1) by omega), upR_n (show ¬ (a = 1071 ∧ k = 0) by omega), upR_n (show ¬ (a = 1069 ∧ k = 0) by omega), upR_n (show ¬ (a = 1070 ∧ k = 3) by omega), upR_n (show ¬ (a = 1070 ∧ k = 2) by omega), upR_n (show ¬ (a = 1070 ∧ k = 1) by omega), upR_n (show ¬ (a = 1070 ∧ k = 0) by omega)]
  · rw [upR_n (show ¬ (a = 1069 ∧ k = 66) by omega), upR_n (show ¬ (a = 1069 ∧ k = 65) by omega), upR_n (show ¬ (a = 1069 ∧ k = 64) by omega), upR_n (show ¬ (a = 1069 ∧ k = 63) by omega), upR_n (show ¬ (a = 1069 ∧ k = 62) by omega), upR_n (show ¬ (a = 1069 ∧ k = 61) by omega), upR_n (show ¬ (a = 1069 ∧ k = 60) by omega), upR_n (show ¬ (a = 1069 ∧ k = 59) by omega), upR_n (show ¬ (a = 1069 ∧ k = 58) by omega), upR_n (show ¬ (a = 1069 ∧ k = 54) by omega), upR_n (show ¬ (a = 1069 ∧ k = 53) by omega), upR_n (show ¬ (a = 1069 ∧ k = 52) by omega), upR_n (show ¬ (a = 1069 ∧ k = 51) by omega), upR_n (show ¬ (a = 1069 ∧ k = 50) by omega), upR_n (show ¬ (a = 1069 ∧ k = 48) by omega), upR_n (show ¬ (a = 1069 ∧ k = 47) by omega), upR_n (show ¬ (a = 1069 ∧ k = 46) by omega), upR_n (show ¬ (a = 1069 ∧ k = 45) by omega), upR_n (show ¬ (a = 1069 ∧ k = 44) by omega), upR_n (show ¬ (a = 1069 ∧ k = 43) by omega), upR_n (show ¬ (a = 1069 ∧ k = 42) by omega), upR_n (show ¬ (a = 1069 ∧ k = 41) by omega), upR_n (show ¬ (a = 1069 ∧ k = 40) by omega), upR_n (show ¬ (a = 1069 ∧ k = 39) by omega), upR_n (show ¬ (a = 1069 ∧ k = 37) by omega), upR_n (show ¬ (a = 1069 ∧ k = 36) by omega), upR_n (show ¬ (a = 1069 ∧ k = 34) by omega), upR_n (show ¬ (a = 1069 ∧ k = 31) by omega), upR_n (show ¬ (a = 1069 ∧ k = 30) by omega), upR_n (show ¬ (a = 1069 ∧ k = 29) by omega), upR_n (show ¬ (a = 1069 ∧ k = 28) by omega), upR_n (show ¬ (a = 1069 ∧ k = 27) by omega), upR_n (show ¬ (a = 1069 ∧ k = 16) by omega), upR_n (show ¬ (a = 1069 ∧ k = 15) by omega), upR_n (show ¬ (a = 1069 ∧ k = 14) by omega), upR_n (show ¬ (a = 1069 ∧ k = 13) by omega), upR_n (show ¬ (a = 1069 ∧ k = 12) by omega), upR_n (show ¬ (a = 1069 ∧ k = 11) by omega), upR_n (show ¬ (a = 1069 ∧ k = 10) by omega), upR_n (show ¬ (a = 1069 ∧ k = 9) by omega), upR_n (show ¬ (a = 1069 ∧ k = 8) by omega), upR_n (show ¬ (a = 1069 ∧ k = 7) by omega), upR_n (show ¬ (a = 1069 ∧ k = 6) by omega), upR_n (show ¬ (a = 1069 ∧ k = 5) by omega), upR_n (show ¬ (a = 1069 ∧ k = 4) by omega), upR_n (show ¬ (a = 1069 ∧ k = 3) by omega), upR_n (show ¬ (a = 1069 ∧ k = 1) by omega), upR_n (show ¬ (a = 1071 ∧ k = 3) by omega), upR_n (show ¬ (a = 1071 ∧ k = 2) by omega), upR_n (show ¬ (a = 1071 ∧ k = 1) by omega), upR_n (show ¬ (a = 1071 ∧ k = 0) by omega), upR_n (show ¬ (a = 1069 ∧ k = 0) by omega), upR_n (show ¬ (a = 1070 ∧ k = 3) by omega), upR_n (show ¬ (a = 1070 ∧ k = 2) by omega), upR_n (show ¬ (a = 1070 ∧ k = 1) by omega), upR_n (show ¬ (a = 1070 ∧ k = 0) by omega)]; exact (hz a (by omega) k).2.2
end CN2
