/-! copies of rows; image, restore -/
theorem ac_nat : Cond.native arraycopyName ∈ lw_tbl := jm3 159 rfl
theorem ac_sta : Cond.static arraycopyName ∈ lw_tbl := jm3 158 rfl
theorem ac_ini : Cond.initialized "java/lang/System" ∈ lw_tbl := jm1 26 rfl
theorem mlX2_36 : Cond.methodLink RX2 36 arraycopyName ∈ lw_tbl := jm3 157 rfl
section CZ24
variable {w : jWD} {l : Launch} {M : jMI} {d kc ks : Nat} {Qn : Option Value → jHS → Prop} {Qx : String → jHS → Prop} {pc : Nat} {ls : List (Nat × Value)} {st : List Value}
variable {n : Nat} {sh : Nat → Nat × Nat} {I : Nat → Nat → Int32} {L : Nat → Nat → Int64} {R : Nat → Nat → Option Nat}
theorem jfv_fl {b a j k kd : Nat} {f : Nat → Int32} (h : b ≠ a) : jfv w kd (n, sh, fl I a f k, L, R) b j = jfv w kd (n, sh, I, L, R) b j := by
  unfold jfv
  split <;> simp [fl, h]
theorem jav_fl {b a j k t : Nat} {f : Nat → Int32} (h : b ≠ a) : jav w t (n, sh, fl I a f k, L, R) b j = jav w t (n, sh, I, L, R) b j := by
  unfold jav
  split <;> simp [fl, h]
theorem jx_copyI {idx a0 a n0 n1 k : Nat} (hd : decode M.2.1 pc = .ok (.invokestatic idx, 3)) (hk : Cond.methodLink M.1.cls idx arraycopyName ∈ lw_tbl) (hs0 : sh a0 = (1, n0)) (hs1 : sh a = (1, n1)) (hk0 : k ≤ n0) (hk1 : k ≤ n1) (hk2 : k < 65536) (hst : (st.map Value.category).sum ≤ 8) (kk : jWP w l M d kc ks Qn Qx (pc + 3) ls st (n, sh, fl I a (I a0) k, L, R)) : jWP w l M d kc ks Qn Qx pc ls (.int (nI k) :: .int 0 :: .ref a :: .int 0 :: .ref a0 :: st) (n, sh, I, L, R) := by
  intro p e s m args below meth c H LS locs cells slots mc ms hF hR hl hz hv h1 h2
  have kk := fun H' locs' => kk p e s m args below meth c H' LS locs' cells slots mc ms hF
  obtain ⟨ha0, -, q0⟩ := hR.2.2.2.2 a0 1 n0 hs0 (by decide) (by decide)
  obtain ⟨ha, ha2, q1⟩ := hR.2.2.2.2 a 1 n1 hs1 (by decide) (by decide)
  obtain ⟨hx, hb, hml, -, -, hown, -, -, hK, hW, -⟩ := hF
  obtain ⟨-, k0, hk0', cm0, hkk0⟩ := arrOfT_moved hK.alike (hW.2.2.1 1 (by decide) (by decide)).1 n0 (fun j => Value.int (I a0 j))
  obtain ⟨-, k1, hk1', cm1, hkk1⟩ := arrOfT_moved hK.alike (hW.2.2.1 1 (by decide) (by decide)).1 n1 (fun j => Value.int (I a j))
  have hkt := nI_toInt (n := k) (by omega)
  have hkc := nI_clamp (n := k) (by omega)
  have hk3 : ¬ nI k < 0 := fun q => by
    rw [Int32.lt_iff_toInt_lt, hkt] at q
    have : (0 : Int32).toInt = 0 := by decide
    omega
  have hz0 : (0 : Int32).toNatClampNeg = 0 := by decide
  have hz1 : (0 : Int32).toInt = 0 := by decide
  have q0 : H[jphi w a0]? = some (arrV (w.2.2.1 1) n0 (fun j => Value.int (I a0 j))) := q0
  have q1 : H[jphi w a]? = some (arrV (w.2.2.1 1) n1 (fun j => Value.int (I a j))) := q1
  intro T hT X
  obtain ⟨vm', X', step⟩ := X.arraycopy hx hown (jword hW hK hk rfl args) (jword hW hK ac_nat rfl args) (jword hW hK ac_sta rfl args) (jword hW hK ac_ini rfl args) (src := jphi w a0) (dst := jphi w a) (cs := arrV (w.2.2.1 1) n0 (fun j => Value.int (I a0 j))) (cd := arrV (w.2.2.1 1) n1 (fun j => Value.int (I a j))) (srcPos := 0) (destPos := 0) (n := nI k) (by rw [hT]; exact q0) (by rw [hT]; exact q1)
    (fun _ h => by cases h) (fun _ h => by cases h) (fun h => by cases h) (fun h => by cases h) hk0' hk1' hkk0 hkk1 (by simp [show refKind (jaty 1) = false from rfl]) (by decide) (by decide) hk3
    (by rw [hz1, hkt, arrV_size]; omega)
    (by rw [hz1, hkt, arrV_size]; omega)
    (fun vm₁ _ i hi => by
      rw [hkc] at hi
      have e : (arrV (w.2.2.1 1) n0 (fun j => Value.int (I a0 j))).slots.getD ((0 : Int32).toNatClampNeg + i) .null = .int (I a0 ((0 : Int32).toNatClampNeg + i)) := by
        rw [Array.getD_eq_getD_getElem?, arrV_read _ _ (by rw [hz0]; omega)]
        rfl
      refine ⟨?_, ?_⟩
      · rw [e]; rfl
      · rw [e]; exact trivial)
    (g := F0 m pc LS ((Value.int (nI k) :: .int 0 :: .ref a :: .int 0 :: .ref a0 :: st).map (jvm w))) rfl (by rw [hml]; exact hv.1) (rest := st.map (jvm w)) rfl (by rw [hb]; exact hd) (by show 1 ≤ d + 6; omega) (by
      have := jcat_sum w st
      show 2 * 0 + _ + _ ≤ 100 * (d + 1)
      rw [this]
      have e0 : nativeFrameWords "java/lang/System" "arraycopy" 5 ≤ 60 := by decide
      omega)
  have e1 : copied (arrV (w.2.2.1 1) n0 (fun j => Value.int (I a0 j))) (arrV (w.2.2.1 1) n1 (fun j => Value.int (I a j))) 0 0 (nI k) = arrV (w.2.2.1 1) n1 (fun j => Value.int (va_cpy (I a0) (I a) 0 0 k j)) := by
    have := va_copied (fun z => Value.int z) (w.2.2.1 1) (w.2.2.1 1) (n0 := n0) (n1 := n1) (sp := 0) (dp := 0) (n := k) (I a0) (I a) (by omega)
    rw [← this]
    show Cell.storeRun _ (0 : Int32).toNatClampNeg (Cell.stretch _ (0 : Int32).toNatClampNeg (nI k).toNatClampNeg) = _
    rw [hz0, hkc]
  rw [e1] at X' step
  have hla : jphi w a < H.size := (Array.getElem?_eq_some_iff.mp q1).1
  have hheap : ((T.setVm vm').setCell (jphi w a) (arrV (w.2.2.1 1) n1 (fun j => Value.int (va_cpy (I a0) (I a) 0 0 k j)))).heap = H.setIfInBounds (jphi w a) (arrV (w.2.2.1 1) n1 (fun j => Value.int (va_cpy (I a0) (I a) 0 0 k j))) := by rw [← hT]; rfl
  have oq : ∀ q : Nat, q ≠ jphi w a → (H.setIfInBounds (jphi w a) (arrV (w.2.2.1 1) n1 (fun j => Value.int (va_cpy (I a0) (I a) 0 0 k j))))[q]? = H[q]? := fun q hq => by simp [Array.getElem?_setIfInBounds, Ne.symm hq]
  have e3 : (H.setIfInBounds (jphi w a) (arrV (w.2.2.1 1) n1 (fun j => Value.int (va_cpy (I a0) (I a) 0 0 k j))))[jphi w a]? = some (arrV (w.2.2.1 1) n1 (fun j => Value.int (va_cpy (I a0) (I a) 0 0 k j))) := by simp [Array.getElem?_setIfInBounds, hla]
  obtain ⟨t, a1, b1⟩ := kk _ _ (hR.put (σ' := (n, sh, fl I a (I a0) k, L, R)) ha (by simp) oq rfl rfl (fun _ _ _ h => jfv_fl h) (fun _ _ _ h => jav_fl h) (fun ci h => by
      have h : sh a = (0, ci) := h
      rw [hs1] at h
      cases h) (fun t n' h ht1 _ => by
      have h : sh a = (t, n') := h
      rw [hs1] at h
      cases h
      refine ⟨ha, ha2, ?_⟩
      rw [e3]
      congr 2
      funext q
      show Value.int (va_cpy (I a0) (I a) 0 0 k q) = Value.int (fl I a (I a0) k a q)
      unfold va_cpy fl
      by_cases hq : q < k
      · rw [if_pos ⟨Nat.zero_le _, by omega⟩, if_pos ⟨rfl, hq⟩]; simp
      · rw [if_neg (by omega), if_neg (fun z => hq z.2)])) (fun q hq => by
      rcases List.mem_append.mp hq with h | h
      · exact hl q h
      · obtain ⟨z, -, hz⟩ := List.mem_map.mp h
        rw [← hz]
        exact jphi_low ha) (by simp; exact hz) hv h1 h2 _ hheap X'
  exact ⟨t, step t a1, b1⟩
end CZ24
section CZ25
variable {w : jWD} {l : Launch} {n : Nat} {I J K : Nat → Nat → Int32} {L M N : Nat → Nat → Int64} {R R' : Nat → Nat → Option Nat}
/-- the ledger at b becomes the one at a -/
def cpyH (I : Nat → Nat → Int32) (b a : Nat) : Nat → Nat → Int32 := fl (upI (upI (fl (fl (upI (fl (fl (fl (fl (fl I (b + 1) (I (a + 1)) 12) (b + 2) (I (a + 2)) 12) (b + 3) (I (a + 3)) 12) (b + 4) (I (a + 4)) 12) (b + 5) (I (a + 5)) 1152) b 5 (I a 5)) (b + 6) (I (a + 6)) 12) (b + 7) (I (a + 7)) 12) b 8 (I a 8)) b 9 (I a 9)) (b + 8) (I (a + 8)) 3
set_option maxHeartbeats 1000000 in
set_option maxRecDepth 20000 in
theorem tX2_copyFrom (hW : jWok w l) (hR : RS R) {a b : Nat} (hab : (a = 1051 ∧ b = 1060) ∨ (a = 1060 ∧ b = 1051)) : jCD w l mX2_copyFrom 2 [.ref b, .ref a] (n, shE, I, L, R) none (n, shE, cpyH I b a, L, R) := by
  refine jCD_of hW (by decide) rfl (Nat.le_of_ble_eq_true rfl) ?_
  rcases hab with ⟨rfl, rfl⟩ | ⟨rfl, rfl⟩
  all_goals
    refine jx_aload_n dX2_copyFrom_0 rfl ?_
    refine jx_getR dX2_copyFrom_1 flX2_9 rfl rfl (hR _ _ _ rfl) ?_
    refine jx_iconst (v := 0) dX2_copyFrom_4 (by decide) ?_
    refine jx_aload_n dX2_copyFrom_5 rfl ?_
    refine jx_getR dX2_copyFrom_6 flX2_9 rfl rfl (hR _ _ _ rfl) ?_
    refine jx_iconst (v := 0) dX2_copyFrom_9 (by decide) ?_
    refine jx_bipush (v := 12) dX2_copyFrom_10 (by decide) ?_
    refine jx_copyI (k := 12) dX2_copyFrom_12 mlX2_36 rfl rfl (by decide) (by decide) (by decide) (Nat.le_of_ble_eq_true rfl) ?_
    refine jx_aload_n dX2_copyFrom_15 rfl ?_
    refine jx_getR dX2_copyFrom_16 flX2_15 rfl rfl (hR _ _ _ rfl) ?_
    refine jx_iconst (v := 0) dX2_copyFrom_19 (by decide) ?_
    refine jx_aload_n dX2_copyFrom_20 rfl ?_
    refine jx_getR dX2_copyFrom_21 flX2_15 rfl rfl (hR _ _ _ rfl) ?_
    refine jx_iconst (v := 0) dX2_copyFrom_24 (by decide) ?_
    refine jx_bipush (v := 12) dX2_copyFrom_25 (by decide) ?_
    refine jx_copyI (k := 12) dX2_copyFrom_27 mlX2_36 rfl rfl (by decide) (by decide) (by decide) (Nat.le_of_ble_eq_true rfl) ?_
    refine jx_aload_n dX2_copyFrom_30 rfl ?_
    refine jx_getR dX2_copyFrom_31 flX2_18 rfl rfl (hR _ _ _ rfl) ?_
    refine jx_iconst (v := 0) dX2_copyFrom_34 (by decide) ?_
    refine jx_aload_n dX2_copyFrom_35 rfl ?_
    refine jx_getR dX2_copyFrom_36 flX2_18 rfl rfl (hR _ _ _ rfl) ?_
    refine jx_iconst (v := 0) dX2_copyFrom_39 (by decide) ?_
    refine jx_bipush (v := 12) dX2_copyFrom_40 (by decide) ?_
    refine jx_copyI (k := 12) dX2_copyFrom_42 mlX2_36 rfl rfl (by decide) (by decide) (by decide) (Nat.le_of_ble_eq_true rfl) ?_
    refine jx_aload_n dX2_copyFrom_45 rfl ?_
    refine jx_getR dX2_copyFrom_46 flX2_21 rfl rfl (hR _ _ _ rfl) ?_
    refine jx_iconst (v := 0) dX2_copyFrom_49 (by decide) ?_
    refine jx_aload_n dX2_copyFrom_50 rfl ?_
    refine jx_getR dX2_copyFrom_51 flX2_21 rfl rfl (hR _ _ _ rfl) ?_
    refine jx_iconst (v := 0) dX2_copyFrom_54 (by decide) ?_
    refine jx_bipush (v := 12) dX2_copyFrom_55 (by decide) ?_
    refine jx_copyI (k := 12) dX2_copyFrom_57 mlX2_36 rfl rfl (by decide) (by decide) (by decide) (Nat.le_of_ble_eq_true rfl) ?_
    refine jx_aload_n dX2_copyFrom_60 rfl ?_
    refine jx_getR dX2_copyFrom_61 flX2_24 rfl rfl (hR _ _ _ rfl) ?_
    refine jx_iconst (v := 0) dX2_copyFrom_64 (by decide) ?_
    refine jx_aload_n dX2_copyFrom_65 rfl ?_
    refine jx_getR dX2_copyFrom_66 flX2_24 rfl rfl (hR _ _ _ rfl) ?_
    refine jx_iconst (v := 0) dX2_copyFrom_69 (by decide) ?_
    refine jx_sipush (v := 1152) dX2_copyFrom_70 (by decide) ?_
    refine jx_copyI (k := 1152) dX2_copyFrom_73 mlX2_36 rfl rfl (by decide) (by decide) (by decide) (Nat.le_of_ble_eq_true rfl) ?_
    refine jx_aload_n dX2_copyFrom_76 rfl ?_
    refine jx_aload_n dX2_copyFrom_77 rfl ?_
    refine jx_getI dX2_copyFrom_78 flX2_42 rfl rfl ?_
    refine jx_putI dX2_copyFrom_81 flX2_42 rfl rfl (fun r h => by cases h; rfl) ?_
    refine jx_aload_n dX2_copyFrom_84 rfl ?_
    refine jx_getR dX2_copyFrom_85 flX2_27 rfl rfl (hR _ _ _ rfl) ?_
    refine jx_iconst (v := 0) dX2_copyFrom_88 (by decide) ?_
    refine jx_aload_n dX2_copyFrom_89 rfl ?_
    refine jx_getR dX2_copyFrom_90 flX2_27 rfl rfl (hR _ _ _ rfl) ?_
    refine jx_iconst (v := 0) dX2_copyFrom_93 (by decide) ?_
    refine jx_bipush (v := 12) dX2_copyFrom_94 (by decide) ?_
    refine jx_copyI (k := 12) dX2_copyFrom_96 mlX2_36 rfl rfl (by decide) (by decide) (by decide) (Nat.le_of_ble_eq_true rfl) ?_
    refine jx_aload_n dX2_copyFrom_99 rfl ?_
    refine jx_getR dX2_copyFrom_100 flX2_30 rfl rfl (hR _ _ _ rfl) ?_
    refine jx_iconst (v := 0) dX2_copyFrom_103 (by decide) ?_
    refine jx_aload_n dX2_copyFrom_104 rfl ?_
    refine jx_getR dX2_copyFrom_105 flX2_30 rfl rfl (hR _ _ _ rfl) ?_
    refine jx_iconst (v := 0) dX2_copyFrom_108 (by decide) ?_
    refine jx_bipush (v := 12) dX2_copyFrom_109 (by decide) ?_
    refine jx_copyI (k := 12) dX2_copyFrom_111 mlX2_36 rfl rfl (by decide) (by decide) (by decide) (Nat.le_of_ble_eq_true rfl) ?_
    refine jx_aload_n dX2_copyFrom_114 rfl ?_
    refine jx_aload_n dX2_copyFrom_115 rfl ?_
    refine jx_getI dX2_copyFrom_116 flX2_46 rfl rfl ?_
    refine jx_putI dX2_copyFrom_119 flX2_46 rfl rfl (fun r h => by cases h; rfl) ?_
    refine jx_aload_n dX2_copyFrom_122 rfl ?_
    refine jx_aload_n dX2_copyFrom_123 rfl ?_
    refine jx_getI dX2_copyFrom_124 flX2_49 rfl rfl ?_
    refine jx_putI dX2_copyFrom_127 flX2_49 rfl rfl (fun r h => by cases h; rfl) ?_
    refine jx_aload_n dX2_copyFrom_130 rfl ?_
    refine jx_getR dX2_copyFrom_131 flX2_33 rfl rfl (hR _ _ _ rfl) ?_
    refine jx_iconst (v := 0) dX2_copyFrom_134 (by decide) ?_
    refine jx_aload_n dX2_copyFrom_135 rfl ?_
    refine jx_getR dX2_copyFrom_136 flX2_33 rfl rfl (hR _ _ _ rfl) ?_
    refine jx_iconst (v := 0) dX2_copyFrom_139 (by decide) ?_
    refine jx_aload_n dX2_copyFrom_140 rfl ?_
    refine jx_getR dX2_copyFrom_141 flX2_33 rfl rfl (hR _ _ _ rfl) ?_
    refine jx_alen dX2_copyFrom_144 rfl (by decide) (by decide) ?_
    refine jx_copyI (k := 3) dX2_copyFrom_145 mlX2_36 rfl rfl (by decide) (by decide) (by decide) (Nat.le_of_ble_eq_true rfl) ?_
    refine jx_vret dX2_copyFrom_148 rfl ?_
    exact ⟨rfl, rfl⟩
set_option maxHeartbeats 1000000 in
set_option maxRecDepth 20000 in
theorem tX10_image (hW : jWok w l) (hR : RS R) : jCD w l mX10_image 3 [.ref 1000] (n, shE, I, L, R) none (n, shE, upI (cpyH I 1060 1051) 1000 10 1, L, R) := by
  refine jCD_of hW (by decide) rfl (Nat.le_of_ble_eq_true rfl) ?_
  refine jx_aload_n dX10_image_0 rfl ?_
  refine jx_getR dX10_image_1 flX10_64 rfl rfl (hR _ _ _ rfl) ?_
  refine jx_aload_n dX10_image_4 rfl ?_
  refine jx_getR dX10_image_5 flX10_60 rfl rfl (hR _ _ _ rfl) ?_
  refine jx_Vv (as := [.ref _]) dX10_image_8 mlX10_373 okX2_copyFrom viX2_copyFrom rfl rfl rfl rfl rfl (by decide) (Nat.le_of_ble_eq_true rfl) (tX2_copyFrom (a := 1051) (b := 1060) hW hR (by decide)) ?_
  refine jx_aload_n dX10_image_11 rfl ?_
  refine jx_iconst (v := 1) dX10_image_12 (by decide) ?_
  refine jx_putZ dX10_image_13 flX10_107 rfl rfl (fun r h => by cases h; rfl) (by first | exact Or.inl rfl | exact Or.inr rfl | exact jb_or _) ?_
  refine jx_vret dX10_image_16 rfl ?_
  exact ⟨rfl, rfl⟩
set_option maxHeartbeats 1000000 in
set_option maxRecDepth 20000 in
theorem tX10_restore (hW : jWok w l) (hR : RS R) {z : Bool} (hz : I 1000 10 = jb z) : jCD w l mX10_restore 3 [.ref 1000] (n, shE, I, L, R) (some (.int (jb z))) (n, shE, (if z = true then cpyH I 1051 1060 else I), L, R) := by
  refine jCD_of hW (by decide) rfl (Nat.le_of_ble_eq_true rfl) ?_
  have hc : cpyH I 1051 1060 1000 10 = I 1000 10 := rfl
  refine jx_aload_n dX10_restore_0 rfl ?_
  refine jx_getIE dX10_restore_1 flX10_107 rfl rfl (hz) ?_
  refine jx_ifB_eq 18 dX10_restore_4 (by decide) (fun h4 => ?_) (fun h4 => ?_)
  · rw [h4]
    refine jx_aload_n dX10_restore_18 rfl ?_
    refine jx_getIE dX10_restore_19 flX10_107 rfl rfl (hz) ?_
    refine jx_zret dX10_restore_22 rfl ?_ ?_
    · first | exact Or.inl rfl | exact Or.inr rfl | exact jb_or _
    exact ⟨by rw [h4], rfl⟩
  · rw [h4]
    refine jx_aload_n dX10_restore_7 rfl ?_
    refine jx_getR dX10_restore_8 flX10_60 rfl rfl (hR _ _ _ rfl) ?_
    refine jx_aload_n dX10_restore_11 rfl ?_
    refine jx_getR dX10_restore_12 flX10_64 rfl rfl (hR _ _ _ rfl) ?_
    refine jx_Vv (as := [.ref _]) dX10_restore_15 mlX10_373 okX2_copyFrom viX2_copyFrom rfl rfl rfl rfl rfl (by decide) (Nat.le_of_ble_eq_true rfl) (tX2_copyFrom (a := 1060) (b := 1051) hW hR (by decide)) ?_
    refine jx_aload_n dX10_restore_18 rfl ?_
    refine jx_getIE dX10_restore_19 flX10_107 rfl rfl (hc.trans hz) ?_
    refine jx_zret dX10_restore_22 rfl ?_ ?_
    · first | exact Or.inl rfl | exact Or.inr rfl | exact jb_or _
    exact ⟨by rw [h4], rfl⟩
end CZ25
