/-! constructors -/
def Zr (m : Nat) (I : Nat → Nat → Int32) (L : Nat → Nat → Int64) (R : Nat → Nat → Option Nat) : Prop := ∀ a, m ≤ a → ∀ k, I a k = 0 ∧ L a k = 0 ∧ R a k = none
def jCn (w : jWD) (l : Launch) (M : jMI) (d kc ks : Nat) (as : List Value) (σ σ' : jHS) : Prop := jCt w l M d kc ks as σ (fun v t => v = none ∧ t = σ') (fun _ _ => False)
theorem lk_c {k k1 x1 x : Nat} {t : List (Nat × Nat)} (h : List.lookup k ((k1, x1) :: t) = some x) : (k = k1 ∧ x = x1) ∨ List.lookup k t = some x := by
  rw [List.lookup_cons] at h
  by_cases z : k = k1
  · rw [z, beq_self_eq_true] at h
    cases h
    exact Or.inl ⟨z, rfl⟩
  · rw [show (k == k1) = false from beq_false_of_ne z] at h
    exact Or.inr h
theorem lk_n {k x : Nat} (h : List.lookup k ([] : List (Nat × Nat)) = some x) : False := by cases h
section CN1
variable {w : jWD} {l : Launch} {n : Nat} {I J : Nat → Nat → Int32} {L M : Nat → Nat → Int64} {R : Nat → Nat → Option Nat} {T : Nat → Nat → Int32}
theorem jCn_of {M : jMI} {d kc ks : Nat} {as : List Value} {σ σ' : jHS} (hW : jWok w l) (hy : plainName M.1.cls = true) (hh : M.2.2.2.2 = []) (hlen : (as.map Value.category).sum ≤ M.2.2.1) (h : jWP w l M d kc ks (fun v t => v = none ∧ t = σ') (fun _ _ => False) 0 (lv_args 0 as) [] σ) : jCn w l M d kc ks as σ σ' := jCt_of hW hy hh hlen h
set_option maxHeartbeats 2000000 in
set_option maxRecDepth 40000 in
theorem gX3_init (hW : jWok w l) (a : Nat) (σ : jHS) : jCn w l mX3_init 1 0 0 [.ref a] σ σ := by
  refine jCn_of hW (by decide) rfl (Nat.le_of_ble_eq_true rfl) ?_
  refine jx_aload_n dX3_init_0 rfl ?_
  refine jx_objInit dX3_init_1 mlX3_1 oi_in oi_co (Nat.le_of_ble_eq_true rfl) ?_
  refine jx_vret dX3_init_4 rfl ?_
  exact ⟨rfl, rfl⟩
set_option maxHeartbeats 2000000 in
set_option maxRecDepth 40000 in
theorem gX9_init_1005 (hW : jWok w l) (hz : Zr 1005 I L R) : jCn w l mX9_init 1 0 0 [.ref 1005, .ref 1001] (1006, shN 1006, I, L, R) (1006, shN 1006, I, L, (upR R 1005 0 (some 1001))) := by
  refine jCn_of hW (by decide) rfl (Nat.le_of_ble_eq_true rfl) ?_
  refine jx_aload_n dX9_init_0 rfl ?_
  refine jx_objInit dX9_init_1 mlX9_3 oi_in oi_co (Nat.le_of_ble_eq_true rfl) ?_
  refine jx_aload_n dX9_init_4 rfl ?_
  refine jx_aload_n dX9_init_5 rfl ?_
  refine jx_putF (ci := 9) (k := 0) dX9_init_6 rfl jclX9 (by decide) (jm1 47 rfl) ((shN_lt (by decide)).trans rfl) rfl rfl rfl rfl ?_
  refine jx_vret dX9_init_9 rfl ?_
  exact ⟨rfl, rfl⟩
set_option maxHeartbeats 2000000 in
set_option maxRecDepth 40000 in
theorem gX7_init_1006 (hW : jWok w l) (hz : Zr 1006 I L R) : jCn w l mX7_init 1 1 96 [.ref 1006, .ref 1005] (1007, shN 1007, I, L, R) (1008, shN 1008, I, L, (upR (upR R 1006 1 (some 1007)) 1006 0 (some 1005))) := by
  refine jCn_of hW (by decide) rfl (Nat.le_of_ble_eq_true rfl) ?_
  refine jx_aload_n dX7_init_0 rfl ?_
  refine jx_objInit dX7_init_1 mlX7_3 oi_in oi_co (Nat.le_of_ble_eq_true rfl) ?_
  refine jx_aload_n dX7_init_4 rfl ?_
  refine jx_bipush (v := 96) dX7_init_5 (by decide) ?_
  refine jx_newarr (t := 1) (m := 96) dX7_init_7 ac_int rfl (by decide) rfl (by decide) (fun k => hz _ (by decide) k) (by decide) (by decide) ?_
  refine jx_putF (ci := 7) (k := 1) dX7_init_9 rfl jclX7 (by decide) (jm1 87 rfl) ((shN_lt (by decide)).trans rfl) rfl rfl rfl rfl ?_
  refine jx_aload_n dX7_init_12 rfl ?_
  refine jx_aload_n dX7_init_13 rfl ?_
  refine jx_putF (ci := 7) (k := 0) dX7_init_14 rfl jclX7 (by decide) (jm1 86 rfl) ((shN_lt (by decide)).trans rfl) rfl rfl rfl rfl ?_
  refine jx_vret dX7_init_17 rfl ?_
  exact ⟨rfl, rfl⟩
set_option maxHeartbeats 2000000 in
set_option maxRecDepth 40000 in
theorem gX5_init_1004 (hW : jWok w l) (hz : Zr 1004 I L R) : jCn w l mX5_init 2 3 114 [.ref 1004, .ref 1001] (1005, shN 1005, I, L, R) (1008, shN 1008, I, L, (upR (upR (upR (upR (upR R 1005 0 (some 1001)) 1004 0 (some 1005)) 1006 1 (some 1007)) 1006 0 (some 1005)) 1004 1 (some 1006))) := by
  refine jCn_of hW (by decide) rfl (Nat.le_of_ble_eq_true rfl) ?_
  refine jx_aload_n dX5_init_0 rfl ?_
  refine jx_objInit dX5_init_1 mlX5_3 oi_in oi_co (Nat.le_of_ble_eq_true rfl) ?_
  refine jx_aload_n dX5_init_4 rfl ?_
  refine jx_new (ci := 9) (r := (RX9, TX9, 8)) dX5_init_5 clX5_9 rfl jclX9 itX9 iiX9 rfl (by decide) (fun k => hz _ (by decide) k) (by decide) (by decide) ?_
  refine jx_dup dX5_init_8 rfl ?_
  refine jx_aload_n dX5_init_9 rfl ?_
  refine jx_invI (as := [.ref 1001]) dX5_init_10 mlX5_11 okX9_init inX9_init rfl rfl rfl (by decide) (by decide) (by decide) (Nat.le_of_ble_eq_true rfl) (gX9_init_1005 (I := I) (L := L) (R := R) hW (fun a ha k => hz a (by omega) k)) (fun _ _ h => h) (fun v10 t10 hq10 => ?_)
  obtain ⟨rfl, rfl⟩ := hq10
  refine jx_putF (ci := 5) (k := 0) dX5_init_13 rfl jclX5 (by decide) (jm1 117 rfl) ((shN_lt (by decide)).trans rfl) rfl rfl rfl rfl ?_
  refine jx_aload_n dX5_init_16 rfl ?_
  refine jx_new (ci := 7) (r := (RX7, TX7, 10)) dX5_init_17 clX5_20 rfl jclX7 itX7 iiX7 rfl (by decide) (fun k => hz _ (by decide) k) (by decide) (by decide) ?_
  refine jx_dup dX5_init_20 rfl ?_
  refine jx_aload_n dX5_init_21 rfl ?_
  refine jx_getR dX5_init_22 flX5_14 ((shN_lt (by decide)).trans rfl) rfl (rfl) ?_
  refine jx_invI (as := [.ref 1005]) dX5_init_25 mlX5_22 okX7_init inX7_init rfl rfl rfl (by decide) (by decide) (by decide) (Nat.le_of_ble_eq_true rfl) (gX7_init_1006 (I := I) (L := L) (R := (upR (upR R 1005 0 (some 1001)) 1004 0 (some 1005))) hW (fun a ha k => by have q := hz a (by omega) k; refine ⟨q.1, q.2.1, ?_⟩; rw [upR_n (show ¬ (a = 1004 ∧ k = 0) by omega), upR_n (show ¬ (a = 1005 ∧ k = 0) by omega)]; exact q.2.2)) (fun _ _ h => h) (fun v25 t25 hq25 => ?_)
  obtain ⟨rfl, rfl⟩ := hq25
  refine jx_putF (ci := 5) (k := 1) dX5_init_28 rfl jclX5 (by decide) (jm1 118 rfl) ((shN_lt (by decide)).trans rfl) rfl rfl rfl rfl ?_
  refine jx_vret dX5_init_31 rfl ?_
  exact ⟨rfl, rfl⟩
set_option maxHeartbeats 2000000 in
set_option maxRecDepth 40000 in
theorem gX8_init_1009 (hW : jWok w l) (hz : Zr 1009 I L R) : jCn w l mX8_init 1 3 85 [.ref 1009] (1010, shN 1010, I, L, R) (1013, shN 1013, I, L, (upR (upR (upR R 1009 2 (some 1010)) 1009 6 (some 1011)) 1009 14 (some 1012))) := by
  refine jCn_of hW (by decide) rfl (Nat.le_of_ble_eq_true rfl) ?_
  refine jx_aload_n dX8_init_0 rfl ?_
  refine jx_objInit dX8_init_1 mlX8_3 oi_in oi_co (Nat.le_of_ble_eq_true rfl) ?_
  refine jx_aload_n dX8_init_4 rfl ?_
  refine jx_bipush (v := 63) dX8_init_5 (by decide) ?_
  refine jx_newarr (t := 1) (m := 63) dX8_init_7 ac_int rfl (by decide) rfl (by decide) (fun k => hz _ (by decide) k) (by decide) (by decide) ?_
  refine jx_putF (ci := 8) (k := 2) dX8_init_9 rfl jclX8 (by decide) (jm1 152 rfl) ((shN_lt (by decide)).trans rfl) rfl rfl rfl rfl ?_
  refine jx_aload_n dX8_init_12 rfl ?_
  refine jx_bipush (v := 12) dX8_init_13 (by decide) ?_
  refine jx_newarr (t := 1) (m := 12) dX8_init_15 ac_int rfl (by decide) rfl (by decide) (fun k => hz _ (by decide) k) (by decide) (by decide) ?_
  refine jx_putF (ci := 8) (k := 6) dX8_init_17 rfl jclX8 (by decide) (jm1 162 rfl) ((shN_lt (by decide)).trans rfl) rfl rfl rfl rfl ?_
  refine jx_aload_n dX8_init_20 rfl ?_
  refine jx_bipush (v := 10) dX8_init_21 (by decide) ?_
  refine jx_newarr (t := 4) (m := 10) dX8_init_23 ac_long rfl (by decide) rfl (by decide) (fun k => hz _ (by decide) k) (by decide) (by decide) ?_
  refine jx_putF (ci := 8) (k := 14) dX8_init_25 rfl jclX8 (by decide) (jm1 185 rfl) ((shN_lt (by decide)).trans rfl) rfl rfl rfl rfl ?_
  refine jx_vret dX8_init_28 rfl ?_
  exact ⟨rfl, rfl⟩
set_option maxHeartbeats 2000000 in
set_option maxRecDepth 40000 in
theorem gX6_init_1013 (hW : jWok w l) (hz : Zr 1013 I L R) : jCn w l mX6_init 1 2 764 [.ref 1013] (1014, shN 1014, I, L, R) (1016, shN 1016, I, L, (upR (upR R 1013 0 (some 1014)) 1013 1 (some 1015))) := by
  refine jCn_of hW (by decide) rfl (Nat.le_of_ble_eq_true rfl) ?_
  refine jx_aload_n dX6_init_0 rfl ?_
  refine jx_objInit dX6_init_1 mlX6_3 oi_in oi_co (Nat.le_of_ble_eq_true rfl) ?_
  refine jx_aload_n dX6_init_4 rfl ?_
  refine jx_sipush (v := 700) dX6_init_5 (by decide) ?_
  refine jx_newarr (t := 1) (m := 700) dX6_init_8 ac_int rfl (by decide) rfl (by decide) (fun k => hz _ (by decide) k) (by decide) (by decide) ?_
  refine jx_putF (ci := 6) (k := 0) dX6_init_10 rfl jclX6 (by decide) (jm1 224 rfl) ((shN_lt (by decide)).trans rfl) rfl rfl rfl rfl ?_
  refine jx_aload_n dX6_init_13 rfl ?_
  refine jx_bipush (v := 64) dX6_init_14 (by decide) ?_
  refine jx_newarr (t := 1) (m := 64) dX6_init_16 ac_int rfl (by decide) rfl (by decide) (fun k => hz _ (by decide) k) (by decide) (by decide) ?_
  refine jx_putF (ci := 6) (k := 1) dX6_init_18 rfl jclX6 (by decide) (jm1 225 rfl) ((shN_lt (by decide)).trans rfl) rfl rfl rfl rfl ?_
  refine jx_vret dX6_init_21 rfl ?_
  exact ⟨rfl, rfl⟩
set_option maxHeartbeats 2000000 in
set_option maxRecDepth 40000 in
theorem gX8_init_1025 (hW : jWok w l) (hz : Zr 1025 I L R) : jCn w l mX8_init 1 3 85 [.ref 1025] (1026, shN 1026, I, L, R) (1029, shN 1029, I, L, (upR (upR (upR R 1025 2 (some 1026)) 1025 6 (some 1027)) 1025 14 (some 1028))) := by
  refine jCn_of hW (by decide) rfl (Nat.le_of_ble_eq_true rfl) ?_
  refine jx_aload_n dX8_init_0 rfl ?_
  refine jx_objInit dX8_init_1 mlX8_3 oi_in oi_co (Nat.le_of_ble_eq_true rfl) ?_
  refine jx_aload_n dX8_init_4 rfl ?_
  refine jx_bipush (v := 63) dX8_init_5 (by decide) ?_
  refine jx_newarr (t := 1) (m := 63) dX8_init_7 ac_int rfl (by decide) rfl (by decide) (fun k => hz _ (by decide) k) (by decide) (by decide) ?_
  refine jx_putF (ci := 8) (k := 2) dX8_init_9 rfl jclX8 (by decide) (jm1 152 rfl) ((shN_lt (by decide)).trans rfl) rfl rfl rfl rfl ?_
  refine jx_aload_n dX8_init_12 rfl ?_
  refine jx_bipush (v := 12) dX8_init_13 (by decide) ?_
  refine jx_newarr (t := 1) (m := 12) dX8_init_15 ac_int rfl (by decide) rfl (by decide) (fun k => hz _ (by decide) k) (by decide) (by decide) ?_
  refine jx_putF (ci := 8) (k := 6) dX8_init_17 rfl jclX8 (by decide) (jm1 162 rfl) ((shN_lt (by decide)).trans rfl) rfl rfl rfl rfl ?_
  refine jx_aload_n dX8_init_20 rfl ?_
  refine jx_bipush (v := 10) dX8_init_21 (by decide) ?_
  refine jx_newarr (t := 4) (m := 10) dX8_init_23 ac_long rfl (by decide) rfl (by decide) (fun k => hz _ (by decide) k) (by decide) (by decide) ?_
  refine jx_putF (ci := 8) (k := 14) dX8_init_25 rfl jclX8 (by decide) (jm1 185 rfl) ((shN_lt (by decide)).trans rfl) rfl rfl rfl rfl ?_
  refine jx_vret dX8_init_28 rfl ?_
  exact ⟨rfl, rfl⟩
set_option maxHeartbeats 2000000 in
set_option maxRecDepth 40000 in
theorem gX6_init_1029 (hW : jWok w l) (hz : Zr 1029 I L R) : jCn w l mX6_init 1 2 764 [.ref 1029] (1030, shN 1030, I, L, R) (1032, shN 1032, I, L, (upR (upR R 1029 0 (some 1030)) 1029 1 (some 1031))) := by
  refine jCn_of hW (by decide) rfl (Nat.le_of_ble_eq_true rfl) ?_
  refine jx_aload_n dX6_init_0 rfl ?_
  refine jx_objInit dX6_init_1 mlX6_3 oi_in oi_co (Nat.le_of_ble_eq_true rfl) ?_
  refine jx_aload_n dX6_init_4 rfl ?_
  refine jx_sipush (v := 700) dX6_init_5 (by decide) ?_
  refine jx_newarr (t := 1) (m := 700) dX6_init_8 ac_int rfl (by decide) rfl (by decide) (fun k => hz _ (by decide) k) (by decide) (by decide) ?_
  refine jx_putF (ci := 6) (k := 0) dX6_init_10 rfl jclX6 (by decide) (jm1 224 rfl) ((shN_lt (by decide)).trans rfl) rfl rfl rfl rfl ?_
  refine jx_aload_n dX6_init_13 rfl ?_
  refine jx_bipush (v := 64) dX6_init_14 (by decide) ?_
  refine jx_newarr (t := 1) (m := 64) dX6_init_16 ac_int rfl (by decide) rfl (by decide) (fun k => hz _ (by decide) k) (by decide) (by decide) ?_
  refine jx_putF (ci := 6) (k := 1) dX6_init_18 rfl jclX6 (by decide) (jm1 225 rfl) ((shN_lt (by decide)).trans rfl) rfl rfl rfl rfl ?_
  refine jx_vret dX6_init_21 rfl ?_
  exact ⟨rfl, rfl⟩
set_option maxHeartbeats 2000000 in
set_option maxRecDepth 40000 in
theorem gX0_init_1040 (hW : jWok w l) (hz : Zr 1040 I L R) : jCn w l mX0_init 1 5 4378 [.ref 1040, .ref 1008] (1041, shN 1041, I, L, R) (1046, shN 1046, I, L, (upR (upR (upR (upR (upR (upR R 1040 1 (some 1041)) 1040 3 (some 1042)) 1040 4 (some 1043)) 1040 5 (some 1044)) 1040 6 (some 1045)) 1040 0 (some 1008))) := by
  refine jCn_of hW (by decide) rfl (Nat.le_of_ble_eq_true rfl) ?_
  refine jx_aload_n dX0_init_0 rfl ?_
  refine jx_objInit dX0_init_1 mlX0_3 oi_in oi_co (Nat.le_of_ble_eq_true rfl) ?_
  refine jx_aload_n dX0_init_4 rfl ?_
  refine jx_sipush (v := 3936) dX0_init_5 (by decide) ?_
  refine jx_newarr (t := 2) (m := 3936) dX0_init_8 ac_byte rfl (by decide) rfl (by decide) (fun k => hz _ (by decide) k) (by decide) (by decide) ?_
  refine jx_putF (ci := 0) (k := 1) dX0_init_10 rfl jclX0 (by decide) (jm2 117 rfl) ((shN_lt (by decide)).trans rfl) rfl rfl rfl rfl ?_
  refine jx_aload_n dX0_init_13 rfl ?_
  refine jx_sipush (v := 246) dX0_init_14 (by decide) ?_
  refine jx_newarr (t := 1) (m := 246) dX0_init_17 ac_int rfl (by decide) rfl (by decide) (fun k => hz _ (by decide) k) (by decide) (by decide) ?_
  refine jx_putF (ci := 0) (k := 3) dX0_init_19 rfl jclX0 (by decide) (jm2 119 rfl) ((shN_lt (by decide)).trans rfl) rfl rfl rfl rfl ?_
  refine jx_aload_n dX0_init_22 rfl ?_
  refine jx_bipush (v := 96) dX0_init_23 (by decide) ?_
  refine jx_newarr (t := 4) (m := 96) dX0_init_25 ac_long rfl (by decide) rfl (by decide) (fun k => hz _ (by decide) k) (by decide) (by decide) ?_
  refine jx_putF (ci := 0) (k := 4) dX0_init_27 rfl jclX0 (by decide) (jm2 120 rfl) ((shN_lt (by decide)).trans rfl) rfl rfl rfl rfl ?_
  refine jx_aload_n dX0_init_30 rfl ?_
  refine jx_bipush (v := 96) dX0_init_31 (by decide) ?_
  refine jx_newarr (t := 4) (m := 96) dX0_init_33 ac_long rfl (by decide) rfl (by decide) (fun k => hz _ (by decide) k) (by decide) (by decide) ?_
  refine jx_putF (ci := 0) (k := 5) dX0_init_35 rfl jclX0 (by decide) (jm2 121 rfl) ((shN_lt (by decide)).trans rfl) rfl rfl rfl rfl ?_
  refine jx_aload_n dX0_init_38 rfl ?_
  refine jx_iconst (v := 4) dX0_init_39 (by decide) ?_
  refine jx_newarr (t := 1) (m := 4) dX0_init_40 ac_int rfl (by decide) rfl (by decide) (fun k => hz _ (by decide) k) (by decide) (by decide) ?_
  refine jx_putF (ci := 0) (k := 6) dX0_init_42 rfl jclX0 (by decide) (jm2 122 rfl) ((shN_lt (by decide)).trans rfl) rfl rfl rfl rfl ?_
  refine jx_aload_n dX0_init_45 rfl ?_
  refine jx_aload_n dX0_init_46 rfl ?_
  refine jx_putR dX0_init_47 flX0_29 ((shN_lt (by decide)).trans rfl) ⟨_, rfl⟩ (fun r h => by cases h; rfl) ?_
  refine jx_vret dX0_init_50 rfl ?_
  exact ⟨rfl, rfl⟩
set_option maxHeartbeats 2000000 in
set_option maxRecDepth 40000 in
theorem gX4_init_1046 (hW : jWok w l) (hz : Zr 1046 I L R) : jCn w l mX4_init 1 4 140 [.ref 1046, .ref 1040] (1047, shN 1047, I, L, R) (1051, shN 1051, I, L, (upR (upR (upR (upR (upR R 1046 1 (some 1047)) 1046 2 (some 1048)) 1046 3 (some 1049)) 1046 4 (some 1050)) 1046 0 (some 1040))) := by
  refine jCn_of hW (by decide) rfl (Nat.le_of_ble_eq_true rfl) ?_
  refine jx_aload_n dX4_init_0 rfl ?_
  refine jx_objInit dX4_init_1 mlX4_3 oi_in oi_co (Nat.le_of_ble_eq_true rfl) ?_
  refine jx_aload_n dX4_init_4 rfl ?_
  refine jx_bipush (v := 6) dX4_init_5 (by decide) ?_
  refine jx_newarr (t := 4) (m := 6) dX4_init_7 ac_long rfl (by decide) rfl (by decide) (fun k => hz _ (by decide) k) (by decide) (by decide) ?_
  refine jx_putF (ci := 4) (k := 1) dX4_init_9 rfl jclX4 (by decide) (jm2 151 rfl) ((shN_lt (by decide)).trans rfl) rfl rfl rfl rfl ?_
  refine jx_aload_n dX4_init_12 rfl ?_
  refine jx_bipush (v := 64) dX4_init_13 (by decide) ?_
  refine jx_newarr (t := 3) (m := 64) dX4_init_15 ac_boolean rfl (by decide) rfl (by decide) (fun k => hz _ (by decide) k) (by decide) (by decide) ?_
  refine jx_putF (ci := 4) (k := 2) dX4_init_17 rfl jclX4 (by decide) (jm2 152 rfl) ((shN_lt (by decide)).trans rfl) rfl rfl rfl rfl ?_
  refine jx_aload_n dX4_init_20 rfl ?_
  refine jx_bipush (v := 64) dX4_init_21 (by decide) ?_
  refine jx_newarr (t := 1) (m := 64) dX4_init_23 ac_int rfl (by decide) rfl (by decide) (fun k => hz _ (by decide) k) (by decide) (by decide) ?_
  refine jx_putF (ci := 4) (k := 3) dX4_init_25 rfl jclX4 (by decide) (jm2 153 rfl) ((shN_lt (by decide)).trans rfl) rfl rfl rfl rfl ?_
  refine jx_aload_n dX4_init_28 rfl ?_
  refine jx_bipush (v := 6) dX4_init_29 (by decide) ?_
  refine jx_newarr (t := 1) (m := 6) dX4_init_31 ac_int rfl (by decide) rfl (by decide) (fun k => hz _ (by decide) k) (by decide) (by decide) ?_
  refine jx_putF (ci := 4) (k := 4) dX4_init_33 rfl jclX4 (by decide) (jm2 154 rfl) ((shN_lt (by decide)).trans rfl) rfl rfl rfl rfl ?_
  refine jx_aload_n dX4_init_36 rfl ?_
  refine jx_aload_n dX4_init_37 rfl ?_
  refine jx_putF (ci := 4) (k := 0) dX4_init_38 rfl jclX4 (by decide) (jm2 150 rfl) ((shN_lt (by decide)).trans rfl) rfl rfl rfl rfl ?_
  refine jx_vret dX4_init_41 rfl ?_
  exact ⟨rfl, rfl⟩
set_option maxHeartbeats 2000000 in
set_option maxRecDepth 40000 in
theorem gX2_init_1051 (hW : jWok w l) (hz : Zr 1051 I L R) : jCn w l mX2_init 1 8 1227 [.ref 1051] (1052, shN 1052, I, L, R) (1060, shN 1060, I, L, (upR (upR (upR (upR (upR (upR (upR (upR R 1051 0 (some 1052)) 1051 1 (some 1053)) 1051 2 (some 1054)) 1051 3 (some 1055)) 1051 4 (some 1056)) 1051 6 (some 1057)) 1051 7 (some 1058)) 1051 10 (some 1059))) := by
  refine jCn_of hW (by decide) rfl (Nat.le_of_ble_eq_true rfl) ?_
  refine jx_aload_n dX2_init_0 rfl ?_
  refine jx_objInit dX2_init_1 mlX2_3 oi_in oi_co (Nat.le_of_ble_eq_true rfl) ?_
  refine jx_aload_n dX2_init_4 rfl ?_
  refine jx_bipush (v := 12) dX2_init_5 (by decide) ?_
  refine jx_newarr (t := 1) (m := 12) dX2_init_7 ac_int rfl (by decide) rfl (by decide) (fun k => hz _ (by decide) k) (by decide) (by decide) ?_
  refine jx_putF (ci := 2) (k := 0) dX2_init_9 rfl jclX2 (by decide) (jm2 173 rfl) ((shN_lt (by decide)).trans rfl) rfl rfl rfl rfl ?_
  refine jx_aload_n dX2_init_12 rfl ?_
  refine jx_bipush (v := 12) dX2_init_13 (by decide) ?_
  refine jx_newarr (t := 1) (m := 12) dX2_init_15 ac_int rfl (by decide) rfl (by decide) (fun k => hz _ (by decide) k) (by decide) (by decide) ?_
  refine jx_putF (ci := 2) (k := 1) dX2_init_17 rfl jclX2 (by decide) (jm2 175 rfl) ((shN_lt (by decide)).trans rfl) rfl rfl rfl rfl ?_
  refine jx_aload_n dX2_init_20 rfl ?_
  refine jx_bipush (v := 12) dX2_init_21 (by decide) ?_
  refine jx_newarr (t := 1) (m := 12) dX2_init_23 ac_int rfl (by decide) rfl (by decide) (fun k => hz _ (by decide) k) (by decide) (by decide) ?_
  refine jx_putF (ci := 2) (k := 2) dX2_init_25 rfl jclX2 (by decide) (jm2 177 rfl) ((shN_lt (by decide)).trans rfl) rfl rfl rfl rfl ?_
  refine jx_aload_n dX2_init_28 rfl ?_
  refine jx_bipush (v := 12) dX2_init_29 (by decide) ?_
  refine jx_newarr (t := 1) (m := 12) dX2_init_31 ac_int rfl (by decide) rfl (by decide) (fun k => hz _ (by decide) k) (by decide) (by decide) ?_
  refine jx_putF (ci := 2) (k := 3) dX2_init_33 rfl jclX2 (by decide) (jm2 179 rfl) ((shN_lt (by decide)).trans rfl) rfl rfl rfl rfl ?_
  refine jx_aload_n dX2_init_36 rfl ?_
  refine jx_sipush (v := 1152) dX2_init_37 (by decide) ?_
  refine jx_newarr (t := 1) (m := 1152) dX2_init_40 ac_int rfl (by decide) rfl (by decide) (fun k => hz _ (by decide) k) (by decide) (by decide) ?_
  refine jx_putF (ci := 2) (k := 4) dX2_init_42 rfl jclX2 (by decide) (jm2 181 rfl) ((shN_lt (by decide)).trans rfl) rfl rfl rfl rfl ?_
  refine jx_aload_n dX2_init_45 rfl ?_
  refine jx_bipush (v := 12) dX2_init_46 (by decide) ?_
  refine jx_newarr (t := 1) (m := 12) dX2_init_48 ac_int rfl (by decide) rfl (by decide) (fun k => hz _ (by decide) k) (by decide) (by decide) ?_
  refine jx_putF (ci := 2) (k := 6) dX2_init_50 rfl jclX2 (by decide) (jm2 185 rfl) ((shN_lt (by decide)).trans rfl) rfl rfl rfl rfl ?_
  refine jx_aload_n dX2_init_53 rfl ?_
  refine jx_bipush (v := 12) dX2_init_54 (by decide) ?_
  refine jx_newarr (t := 1) (m := 12) dX2_init_56 ac_int rfl (by decide) rfl (by decide) (fun k => hz _ (by decide) k) (by decide) (by decide) ?_
  refine jx_putF (ci := 2) (k := 7) dX2_init_58 rfl jclX2 (by decide) (jm2 187 rfl) ((shN_lt (by decide)).trans rfl) rfl rfl rfl rfl ?_
  refine jx_aload_n dX2_init_61 rfl ?_
  refine jx_iconst (v := 3) dX2_init_62 (by decide) ?_
  refine jx_newarr (t := 1) (m := 3) dX2_init_63 ac_int rfl (by decide) rfl (by decide) (fun k => hz _ (by decide) k) (by decide) (by decide) ?_
  refine jx_putF (ci := 2) (k := 10) dX2_init_65 rfl jclX2 (by decide) (jm2 193 rfl) ((shN_lt (by decide)).trans rfl) rfl rfl rfl rfl ?_
  refine jx_vret dX2_init_68 rfl ?_
  exact ⟨rfl, rfl⟩
set_option maxHeartbeats 2000000 in
set_option maxRecDepth 40000 in
theorem gX2_init_1060 (hW : jWok w l) (hz : Zr 1060 I L R) : jCn w l mX2_init 1 8 1227 [.ref 1060] (1061, shN 1061, I, L, R) (1069, shN 1069, I, L, (upR (upR (upR (upR (upR (upR (upR (upR R 1060 0 (some 1061)) 1060 1 (some 1062)) 1060 2 (some 1063)) 1060 3 (some 1064)) 1060 4 (some 1065)) 1060 6 (some 1066)) 1060 7 (some 1067)) 1060 10 (some 1068))) := by
  refine jCn_of hW (by decide) rfl (Nat.le_of_ble_eq_true rfl) ?_
  refine jx_aload_n dX2_init_0 rfl ?_
  refine jx_objInit dX2_init_1 mlX2_3 oi_in oi_co (Nat.le_of_ble_eq_true rfl) ?_
  refine jx_aload_n dX2_init_4 rfl ?_
  refine jx_bipush (v := 12) dX2_init_5 (by decide) ?_
  refine jx_newarr (t := 1) (m := 12) dX2_init_7 ac_int rfl (by decide) rfl (by decide) (fun k => hz _ (by decide) k) (by decide) (by decide) ?_
  refine jx_putF (ci := 2) (k := 0) dX2_init_9 rfl jclX2 (by decide) (jm2 173 rfl) ((shN_lt (by decide)).trans rfl) rfl rfl rfl rfl ?_
  refine jx_aload_n dX2_init_12 rfl ?_
  refine jx_bipush (v := 12) dX2_init_13 (by decide) ?_
  refine jx_newarr (t := 1) (m := 12) dX2_init_15 ac_int rfl (by decide) rfl (by decide) (fun k => hz _ (by decide) k) (by decide) (by decide) ?_
  refine jx_putF (ci := 2) (k := 1) dX2_init_17 rfl jclX2 (by decide) (jm2 175 rfl) ((shN_lt (by decide)).trans rfl) rfl rfl rfl rfl ?_
  refine jx_aload_n dX2_init_20 rfl ?_
  refine jx_bipush (v := 12) dX2_init_21 (by decide) ?_
  refine jx_newarr (t := 1) (m := 12) dX2_init_23 ac_int rfl (by decide) rfl (by decide) (fun k => hz _ (by decide) k) (by decide) (by decide) ?_
  refine jx_putF (ci := 2) (k := 2) dX2_init_25 rfl jclX2 (by decide) (jm2 177 rfl) ((shN_lt (by decide)).trans rfl) rfl rfl rfl rfl ?_
  refine jx_aload_n dX2_init_28 rfl ?_
  refine jx_bipush (v := 12) dX2_init_29 (by decide) ?_
  refine jx_newarr (t := 1) (m := 12) dX2_init_31 ac_int rfl (by decide) rfl (by decide) (fun k => hz _ (by decide) k) (by decide) (by decide) ?_
  refine jx_putF (ci := 2) (k := 3) dX2_init_33 rfl jclX2 (by decide) (jm2 179 rfl) ((shN_lt (by decide)).trans rfl) rfl rfl rfl rfl ?_
  refine jx_aload_n dX2_init_36 rfl ?_
  refine jx_sipush (v := 1152) dX2_init_37 (by decide) ?_
  refine jx_newarr (t := 1) (m := 1152) dX2_init_40 ac_int rfl (by decide) rfl (by decide) (fun k => hz _ (by decide) k) (by decide) (by decide) ?_
  refine jx_putF (ci := 2) (k := 4) dX2_init_42 rfl jclX2 (by decide) (jm2 181 rfl) ((shN_lt (by decide)).trans rfl) rfl rfl rfl rfl ?_
  refine jx_aload_n dX2_init_45 rfl ?_
  refine jx_bipush (v := 12) dX2_init_46 (by decide) ?_
  refine jx_newarr (t := 1) (m := 12) dX2_init_48 ac_int rfl (by decide) rfl (by decide) (fun k => hz _ (by decide) k) (by decide) (by decide) ?_
  refine jx_putF (ci := 2) (k := 6) dX2_init_50 rfl jclX2 (by decide) (jm2 185 rfl) ((shN_lt (by decide)).trans rfl) rfl rfl rfl rfl ?_
  refine jx_aload_n dX2_init_53 rfl ?_
  refine jx_bipush (v := 12) dX2_init_54 (by decide) ?_
  refine jx_newarr (t := 1) (m := 12) dX2_init_56 ac_int rfl (by decide) rfl (by decide) (fun k => hz _ (by decide) k) (by decide) (by decide) ?_
  refine jx_putF (ci := 2) (k := 7) dX2_init_58 rfl jclX2 (by decide) (jm2 187 rfl) ((shN_lt (by decide)).trans rfl) rfl rfl rfl rfl ?_
  refine jx_aload_n dX2_init_61 rfl ?_
  refine jx_iconst (v := 3) dX2_init_62 (by decide) ?_
  refine jx_newarr (t := 1) (m := 3) dX2_init_63 ac_int rfl (by decide) rfl (by decide) (fun k => hz _ (by decide) k) (by decide) (by decide) ?_
  refine jx_putF (ci := 2) (k := 10) dX2_init_65 rfl jclX2 (by decide) (jm2 193 rfl) ((shN_lt (by decide)).trans rfl) rfl rfl rfl rfl ?_
  refine jx_vret dX2_init_68 rfl ?_
  exact ⟨rfl, rfl⟩
end CN1
