/-! texts: the methods of the JDK that ask them -/
section TY
variable {w : jWD} {l : Launch} {M N : jMI} {d kc ks kc' ks' : Nat} {Qn Qn' : Option Value → jHS → Prop} {Qx Qx' : String → jHS → Prop} {pc : Nat} {ls : List (Nat × Value)} {st : List Value} {σ : jHS} {idx a np d' : Nat} {as : List Value}
theorem jx_tret {v : Int32} {ty : FieldType} (hd : decode M.2.1 pc = .ok (.ireturn, 1)) (hr : M.2.2.2.1 = some ty) (hb : narrow ty (.int v) = .int v) (hq : Qn (some (.int v)) σ) : jWP w l M d kc ks Qn Qx pc ls [.int v] σ := by
  intro p e s m args below meth c H LS locs cells slots mc ms hF hR hl hz hv h1 h2
  refine W.widen (k := mc) (n := ms) (by omega) (by omega) (vx_ret ?_)
  exact W.zret (v := v) (ty := ty) hF.1 hF.2.1 (hF.2.2.2.1.trans hr) hb (fun t ht hW => ⟨(some (.int v)), σ, rfl, hq, by rw [ht]; exact hR⟩) hl hd hF.2.2.2.2.1
theorem jx_i2c {x v : Int32} (hd : decode M.2.1 pc = .ok (.i2c, 1)) (hv : (x.toUInt32 % 65536).toInt32 = v) (k : jWP w l M d kc ks Qn Qx (pc + 1) ls (.int v :: st) σ) : jWP w l M d kc ks Qn Qx pc ls (.int x :: st) σ := fun p e s m args below meth c H LS locs cells slots mc ms hF hR hl hz hv2 h1 h2 => lv_i2c hF.1 hF.2.1 hd hv (k p e s m args below meth c H LS locs cells slots mc ms hF hR hl hz hv2 h1 h2)
theorem jx_invVO {q : String × Nat × String × List Int32} (hd : decode M.2.1 pc = .ok (.invokevirtual idx, 3)) (hl : Cond.methodLink M.1.cls idx N.1 ∈ lw_tbl) (hN : jOK N np) (hV : jVir N) (hM : M.2.2.2.2 = [])
    (hq : jsr[a]? = some q) (ha : a < 1000) (hrc : "java/lang/String" = N.1.cls) (hlen : as.length = np) (hdd : d' < d) (hkc : kc' ≤ kc) (hks : ks' ≤ ks) (hst : (st.map Value.category).sum ≤ 8)
    (hC : jCt w l N d' kc' ks' (.ref a :: as) σ Qn' Qx')
    (kn : ∀ v t, Qn' v t → jWP w l M d (kc - kc') (ks - ks') Qn Qx (pc + 3) ls (v.toList ++ st) t) (kx : ∀ E t, Qx' E t → Qx E t) : jWP w l M d kc ks Qn Qx pc ls (as.reverse ++ .ref a :: st) σ := by
  intro p e s m args below meth c H LS locs cells slots mc ms hF hR hlo hz hv h1 h2
  have hcb := jCallB (args := args) (mc := mc) (ms := ms) (d := d) (d' := d') (kc' := kc') (ks' := ks') hF hl hN hdd
  refine jx_vrun (av := ((Value.ref (jphi w a) :: as.map (jvm w)).toArray)) hF hM hlo hz hv h1 h2 hkc hks ?_ kn kx
  obtain ⟨hx, hb, hml, -, -, hown, -, -, hK, hW, -⟩ := hF
  have hpa : jphi w a = w.2.2.2 a := by unfold jphi; rw [if_pos ha]
  obtain ⟨cell, q1, q2, q3, -⟩ := (va_O.moved hK.alike (hW.2.2.2.2.2.1 a q hq).2.1).kept (H1 := H) (fun x _ hxx => hR.2.2.1 x (Nat.not_le.mp hxx))
  refine vx_runV (Ts := []) (C := N.1.cls) (b := jphi w a) (As := as.map (jvm w)) (Pc := jPc w (.ref a :: as) σ) ⟨hx, hb, hml, hown, fun _ h => by cases h⟩ hC ⟨hcb, jword hW hK hV.1 rfl args, jword hW hK hV.2 rfl args⟩ ⟨jPc_blind _ _ _, ⟨cell, by rw [hpa]; exact q1, q2, by rw [← hrc]; exact q3⟩, fun U hU hWm => ⟨rfl, by rw [hU]; exact hR, State.WarmedH.trans hK hWm⟩⟩ rfl (by rw [List.length_map]; exact hlen) hv.1 (jstack w as st a) ?_ hd ⟨?_, ?_⟩
  · exact lv_room (by rw [jcat_sum]; exact hst)
  · show cells + kc' ≤ mc
    omega
  · show slots + ks' ≤ ms
    omega
theorem jx_VOi {x : Int32} {q : String × Nat × String × List Int32} (hd : decode M.2.1 pc = .ok (.invokevirtual idx, 3)) (hl : Cond.methodLink M.1.cls idx N.1 ∈ lw_tbl) (hN : jOK N np) (hV : jVir N) (hM : M.2.2.2.2 = []) (hq : jsr[a]? = some q) (ha : a < 1000) (hrc : "java/lang/String" = N.1.cls) (hlen : as.length = np) (hdd : d' < d) (hst : (st.map Value.category).sum ≤ 8)
    (hC : jCD w l N d' (.ref a :: as) σ (some (.int x)) σ) (k : jWP w l M d kc ks Qn Qx (pc + 3) ls (.int x :: st) σ) : jWP w l M d kc ks Qn Qx pc ls (as.reverse ++ .ref a :: st) σ :=
  jx_invVO hd hl hN hV hM hq ha hrc hlen hdd (Nat.zero_le _) (Nat.zero_le _) hst hC (fun _ _ h => by rw [h.1, h.2]; exact k) (fun _ _ h => h.elim)
theorem chr1 : ∀ c : Nat, c < 128 → ((nI c &&& 255).toUInt32 % 65536).toInt32 = nI c := by decide +kernel
theorem chr2 : ∀ c : Nat, c < 128 → (nI c).toUInt32.toUInt16.toUInt32.toInt32 = nI c := by decide +kernel
end TY
section TZ
variable {w : jWD} {l : Launch} {σ : jHS} {i : Nat} {q : String × Nat × String × List Int32}
theorem tJ0_coder (hW : jWok w l) (hq : jsr[i]? = some q) (hi : i < 500) : jCD w l mJ0_coder_7d493 1 [.ref i] σ (some (.int 0)) σ := by
  refine jCD_ofF hW (by decide +kernel) rfl (Nat.le_of_ble_eq_true rfl) ?_
  refine jx_gsC dJ0_coder_7d493_0 (jm4 28 rfl) ?_
  refine jx_if_eq 13 dJ0_coder_7d493_3 (by decide) (fun h => absurd h (by decide)) (fun h => ?_)
  refine jx_aload_n dJ0_coder_7d493_6 rfl ?_
  refine jx_coder hq hi dJ0_coder_7d493_7 (jm9 119 rfl) ?_
  refine jx_goto 14 dJ0_coder_7d493_10 (by decide) ?_
  exact jx_tret dJ0_coder_7d493_14 rfl rfl ⟨rfl, rfl⟩
theorem tJ0_isLatin1 (hW : jWok w l) (hq : jsr[i]? = some q) (hi : i < 500) : jCD w l mJ0_isLatin1_aae02 1 [.ref i] σ (some (.int 1)) σ := by
  refine jCD_ofF hW (by decide +kernel) rfl (Nat.le_of_ble_eq_true rfl) ?_
  refine jx_gsC dJ0_isLatin1_aae02_0 (jm4 28 rfl) ?_
  refine jx_if_eq 17 dJ0_isLatin1_aae02_3 (by decide) (fun h => absurd h (by decide)) (fun h => ?_)
  refine jx_aload_n dJ0_isLatin1_aae02_6 rfl ?_
  refine jx_coder hq hi dJ0_isLatin1_aae02_7 (jm9 119 rfl) ?_
  refine jx_if_ne 17 dJ0_isLatin1_aae02_10 (by decide) (fun h => absurd rfl h) (fun h => ?_)
  refine jx_iconst (v := 1) dJ0_isLatin1_aae02_13 (by decide) ?_
  refine jx_goto 18 dJ0_isLatin1_aae02_14 (by decide) ?_
  exact jx_tret dJ0_isLatin1_aae02_18 rfl rfl ⟨rfl, rfl⟩
theorem tJ0_length (hW : jWok w l) (hq : jsr[i]? = some q) (hi : i < 500) : jCD w l mJ0_length_8abf5 2 [.ref i] σ (some (.int (nI q.2.2.2.length))) σ := by
  refine jCD_ofF hW (by decide +kernel) rfl (Nat.le_of_ble_eq_true rfl) ?_
  refine jx_aload_n dJ0_length_8abf5_0 rfl ?_
  refine jx_value hq hi dJ0_length_8abf5_1 (jm9 118 rfl) ?_
  refine jx_tlen hq hi dJ0_length_8abf5_4 ?_
  refine jx_aload_n dJ0_length_8abf5_5 rfl ?_
  refine jx_VOi (as := []) dJ0_length_8abf5_6 mlJ0_335 okJ0_coder_7d493 viJ0_coder_7d493 rfl hq (by omega) rfl rfl (by decide) (Nat.le_of_ble_eq_true rfl) (tJ0_coder hW hq hi) ?_
  refine jx_ishrE (z := nI q.2.2.2.length) dJ0_length_8abf5_9 Int32.shiftRight_zero ?_
  exact jx_tret dJ0_length_8abf5_10 rfl rfl ⟨rfl, rfl⟩
theorem tJ3_checkIndex (hW : jWok w l) {k n : Nat} (hk : k < n) (hn : n < 65536) {v : Value} (hv : v = .null ∨ v = .ref 998) : jCD w l mJ3_checkIndex_8e157 1 [.int (nI k), .int (nI n), v] σ (some (.int (nI k))) σ := by
  refine jCD_ofF hW (by decide +kernel) rfl (by rcases hv with rfl | rfl <;> exact Nat.le_of_ble_eq_true rfl) ?_
  have hls : lv_args 0 [.int (nI k), .int (nI n), v] = [(0, .int (nI k)), (1, .int (nI n)), (2, v)] := by rcases hv with rfl | rfl <;> rfl
  rw [hls]
  refine jx_iload_n dJ3_checkIndex_8e157_0 rfl ?_
  refine jx_ifN_lt (a := k) 9 dJ3_checkIndex_8e157_1 (by decide) (by omega) ?_
  refine jx_iload_n dJ3_checkIndex_8e157_4 rfl ?_
  refine jx_iload_n dJ3_checkIndex_8e157_5 rfl ?_
  refine jx_icmpN_lt (a := k) (b := n) 16 dJ3_checkIndex_8e157_6 (by decide) (by omega) (by omega) (fun h => ?_) (fun h => absurd hk (by omega))
  refine jx_iload_n dJ3_checkIndex_8e157_16 rfl ?_
  exact jx_tret dJ3_checkIndex_8e157_17 rfl rfl ⟨rfl, rfl⟩
theorem tJ0_checkIndex (hW : jWok w l) {k n : Nat} (hk : k < n) (hn : n < 65536) : jCD w l mJ0_checkIndex_df160 2 [.int (nI k), .int (nI n)] σ none σ := by
  refine jCD_ofF hW (by decide +kernel) rfl (Nat.le_of_ble_eq_true rfl) ?_
  refine jx_iload_n dJ0_checkIndex_df160_0 rfl ?_
  refine jx_iload_n dJ0_checkIndex_df160_1 rfl ?_
  refine jx_gsS dJ0_checkIndex_df160_2 (jm4 44 rfl) (fun v hv => ?_)
  refine jx_Si (as := [.int _, .int _, v]) dJ0_checkIndex_df160_5 mlJ0_1059 okJ3_checkIndex_8e157 stJ3_checkIndex_8e157 rfl rfl (by decide) (Nat.le_of_ble_eq_true rfl) (tJ3_checkIndex hW hk hn hv) ?_
  refine jx_pop dJ0_checkIndex_df160_8 rfl ?_
  exact jx_vret dJ0_checkIndex_df160_9 rfl ⟨rfl, rfl⟩
theorem tJ1_charAt (hW : jWok w l) (hq : jsr[i]? = some q) (hi : i < 500) {k c : Nat} (hk : k < q.2.2.2.length) (hn : q.2.2.2.length < 65536) (hc : q.2.2.2.getD k 0 = nI c) (hc7 : c < 128) : jCD w l mJ1_charAt_3b067 3 [.ref (500 + i), .int (nI k)] σ (some (.int (nI c))) σ := by
  refine jCD_ofF hW (by decide +kernel) rfl (Nat.le_of_ble_eq_true rfl) ?_
  refine jx_iload_n dJ1_charAt_3b067_0 rfl ?_
  refine jx_aload_n dJ1_charAt_3b067_1 rfl ?_
  refine jx_tlen hq hi dJ1_charAt_3b067_2 ?_
  refine jx_Sv (as := [.int _, .int _]) dJ1_charAt_3b067_3 mlJ1_9 okJ0_checkIndex_df160 stJ0_checkIndex_df160 rfl rfl (by decide) (Nat.le_of_ble_eq_true rfl) (tJ0_checkIndex hW hk hn) ?_
  refine jx_aload_n dJ1_charAt_3b067_6 rfl ?_
  refine jx_iload_n dJ1_charAt_3b067_7 rfl ?_
  refine jx_tb hq hi rfl hk hn dJ1_charAt_3b067_8 ?_
  rw [hc]
  refine jx_sipush (v := 255) dJ1_charAt_3b067_9 (by decide) ?_
  refine jx_iand dJ1_charAt_3b067_12 ?_
  refine jx_i2c (v := nI c) dJ1_charAt_3b067_13 (chr1 c hc7) ?_
  exact jx_tret dJ1_charAt_3b067_14 rfl (congrArg Value.int (chr2 c hc7)) ⟨rfl, rfl⟩
theorem tJ0_charAt (hW : jWok w l) (hq : jsr[i]? = some q) (hi : i < 500) {k c : Nat} (hk : k < q.2.2.2.length) (hn : q.2.2.2.length < 65536) (hc : q.2.2.2.getD k 0 = nI c) (hc7 : c < 128) : jCD w l mJ0_charAt_5068e 4 [.ref i, .int (nI k)] σ (some (.int (nI c))) σ := by
  refine jCD_ofF hW (by decide +kernel) rfl (Nat.le_of_ble_eq_true rfl) ?_
  refine jx_aload_n dJ0_charAt_5068e_0 rfl ?_
  refine jx_VOi (as := []) dJ0_charAt_5068e_1 mlJ0_492 okJ0_isLatin1_aae02 viJ0_isLatin1_aae02 rfl hq (by omega) rfl rfl (by decide) (Nat.le_of_ble_eq_true rfl) (tJ0_isLatin1 hW hq hi) ?_
  refine jx_if_eq 16 dJ0_charAt_5068e_4 (by decide) (fun h => absurd h (by decide)) (fun h => ?_)
  refine jx_aload_n dJ0_charAt_5068e_7 rfl ?_
  refine jx_value hq hi dJ0_charAt_5068e_8 (jm9 118 rfl) ?_
  refine jx_iload_n dJ0_charAt_5068e_11 rfl ?_
  refine jx_Si (as := [.ref _, .int _]) dJ0_charAt_5068e_12 mlJ0_495 okJ1_charAt_3b067 stJ1_charAt_3b067 rfl rfl (by decide) (Nat.le_of_ble_eq_true rfl) (tJ1_charAt hW hq hi hk hn hc hc7) ?_
  exact jx_tret dJ0_charAt_5068e_15 rfl (congrArg Value.int (chr2 c hc7)) ⟨rfl, rfl⟩
end TZ
