section JL
variable {w : jWD} {l : Launch} {M : jMI} {d kc ks : Nat} {Qn : Option Value → jHS → Prop} {Qx : String → jHS → Prop} {pc : Nat} {ls : List (Nat × Value)} {st : List Value} {σ : jHS}
theorem jx_ldc2 {idx : Nat} {v : Int64} (hd : decode M.2.1 pc = .ok (.ldc2_w idx, 3)) (hc : Cond.constantLong M.1.cls idx v ∈ lw_tbl) (k : jWP w l M d kc ks Qn Qx (pc + 3) ls (.long v :: st) σ) : jWP w l M d kc ks Qn Qx pc ls st σ := fun p e s m args below meth c H LS locs cells slots mc ms hF hR hl hz hv h1 h2 =>
  lv_ldc2 hF.1 hF.2.1 hF.2.2.2.2.2.1 (jword hF.2.2.2.2.2.2.2.2.2.1 hF.2.2.2.2.2.2.2.2.1 hc rfl args) hd (k p e s m args below meth c H LS locs cells slots mc ms hF hR hl hz hv h1 h2)
theorem jx_ldc {idx : Nat} {v : Int32} (hd : decode M.2.1 pc = .ok (.ldc idx, 2)) (hc : Cond.constant M.1.cls idx v ∈ lw_tbl) (k : jWP w l M d kc ks Qn Qx (pc + 2) ls (.int v :: st) σ) : jWP w l M d kc ks Qn Qx pc ls st σ := fun p e s m args below meth c H LS locs cells slots mc ms hF hR hl hz hv h1 h2 =>
  lv_ldc hF.1 hF.2.1 hF.2.2.2.2.2.1 (jword hF.2.2.2.2.2.2.2.2.2.1 hF.2.2.2.2.2.2.2.2.1 hc rfl args) hd (k p e s m args below meth c H LS locs cells slots mc ms hF hR hl hz hv h1 h2)
theorem jx_ldcw {idx : Nat} {v : Int32} (hd : decode M.2.1 pc = .ok (.ldc_w idx, 3)) (hc : Cond.constant M.1.cls idx v ∈ lw_tbl) (k : jWP w l M d kc ks Qn Qx (pc + 3) ls (.int v :: st) σ) : jWP w l M d kc ks Qn Qx pc ls st σ := fun p e s m args below meth c H LS locs cells slots mc ms hF hR hl hz hv h1 h2 =>
  lv_ldcw hF.1 hF.2.1 hF.2.2.2.2.2.1 (jword hF.2.2.2.2.2.2.2.2.2.1 hF.2.2.2.2.2.2.2.2.1 hc rfl args) hd (k p e s m args below meth c H LS locs cells slots mc ms hF hR hl hz hv h1 h2)
/-- a text: number i of jsr -/
theorem jstrR {s : State} (hW : jWok w l) (hK : w.1.WarmedH s.vm) {i : Nat} {q : String × Nat × String × List Int32} (hq : jsr[i]? = some q) : vk_R q.1 q.2.1 q.2.2.1 (w.2.2.2 i) s := vk_R.warm hK (hW.2.2.2.2.2.1 i q hq).1
theorem jx_ldcS {idx : Nat} (i : Nat) {q : String × Nat × String × List Int32} (hd : decode M.2.1 pc = .ok (.ldc idx, 2)) (hq : jsr[i]? = some q) (h1 : q.1 = M.1.cls) (h2 : q.2.1 = idx) (hi : i < 1000) (k : jWP w l M d kc ks Qn Qx (pc + 2) ls (.ref i :: st) σ) : jWP w l M d kc ks Qn Qx pc ls st σ := by
  intro p e s m args below meth c H LS locs cells slots mc ms hF hR hl hz hv h3 h4
  have k := k p e s m args below meth c H LS locs cells slots mc ms hF hR hl hz hv h3 h4
  obtain ⟨hx, hb, -, -, -, hown, -, -, hK, hW, -⟩ := hF
  have hr := jstrR hW hK hq
  rw [h1, h2] at hr
  refine va_ldcS hx hb hown hr hd ?_
  have e1 : jvm w (.ref i) = .ref (w.2.2.2 i) := by show Value.ref (jphi w i) = _; unfold jphi; rw [if_pos hi]
  have e2 : (Value.ref i :: st).map (jvm w) = .ref (w.2.2.2 i) :: st.map (jvm w) := by rw [List.map_cons, e1]
  rw [e2] at k
  exact k
theorem jx_ldcSW {idx : Nat} (i : Nat) {q : String × Nat × String × List Int32} (hd : decode M.2.1 pc = .ok (.ldc_w idx, 3)) (hq : jsr[i]? = some q) (h1 : q.1 = M.1.cls) (h2 : q.2.1 = idx) (hi : i < 1000) (k : jWP w l M d kc ks Qn Qx (pc + 3) ls (.ref i :: st) σ) : jWP w l M d kc ks Qn Qx pc ls st σ := by
  intro p e s m args below meth c H LS locs cells slots mc ms hF hR hl hz hv h3 h4
  have k := k p e s m args below meth c H LS locs cells slots mc ms hF hR hl hz hv h3 h4
  obtain ⟨hx, hb, -, -, -, hown, -, -, hK, hW, -⟩ := hF
  have hr := jstrR hW hK hq
  rw [h1, h2] at hr
  intro T hT X
  have e1 : jvm w (.ref i) = .ref (w.2.2.2 i) := by show Value.ref (jphi w i) = _; unfold jphi; rw [if_pos hi]
  have e2 : (Value.ref i :: st).map (jvm w) = .ref (w.2.2.2 i) :: st.map (jvm w) := by rw [List.map_cons, e1]
  rw [e2] at k
  obtain ⟨t, a1, b1⟩ := k T hT X
  exact ⟨t, X.ldcStringW hx hown hr.1 hr.2 (g := F0 m pc LS (st.map (jvm w))) rfl (by rw [hb]; exact hd) t a1, b1⟩
end JL
