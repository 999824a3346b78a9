/-! texts: their fields, their bytes; the static field that says that texts are compact -/
section TX
variable {w : jWD} {l : Launch} {M : jMI} {d kc ks : Nat} {Qn : Option Value → jHS → Prop} {Qx : String → jHS → Prop} {pc : Nat} {ls : List (Nat × Value)} {st : List Value} {σ : jHS}
theorem jvaS {p : Program} {s : State} {m : MethodId} {meth : Method} {c : Code} {H : Heap} {locs : List Loc} (hF : jFx w l M p s m meth c) (hR : jRel w σ H) (hl : ∀ q ∈ locs, jB w ≤ q.base) (hz : s.heap.size ≤ H.size) : va_S (fun q => jB w ≤ q) s.heap H locs := by
  obtain ⟨-, -, -, -, -, -, -, -, -, -, -, hs2⟩ := hF
  refine ⟨hz, fun q _ h2 => ?_, hl⟩
  have hq : q < jB w := Nat.not_le.mp h2
  rw [hR.2.2.1 q hq]
  exact (hs2 q hq).symm
theorem jvo {i : Nat} (hi : i < 1000) : jvm w (.ref i) = .ref (w.2.2.2 i) := by show Value.ref (jphi w i) = _; unfold jphi; rw [if_pos hi]
theorem jx_gsC {idx : Nat} (hd : decode M.2.1 pc = .ok (.getstatic idx, 3)) (hk : Cond.fieldLink M.1.cls idx "java/lang/String" "COMPACT_STRINGS" "Z" ∈ lw_tbl) (k : jWP w l M d kc ks Qn Qx (pc + 3) ls (.int 1 :: st) σ) : jWP w l M d kc ks Qn Qx pc ls st σ := by
  intro p e s m args below meth c H LS locs cells slots mc ms hF hR hl hz hv h3 h4
  have k := k p e s m args below meth c H LS locs cells slots mc ms hF hR hl hz hv h3 h4
  have hS := jvaS hF hR hl hz
  obtain ⟨hx, hb, -, -, -, hown, -, -, hK, hW, -, hs2⟩ := hF
  have hZ := (va_Z.moved hK.alike hW.2.2.2.2.2.2.1).kept (H1 := s.heap) (fun a _ ha => hs2 a (Nat.not_le.mp ha))
  exact va_gets hx hb hZ hS hown (jword hW hK hk rfl args) (fun x h => h) hd k
theorem jx_gsS {idx : Nat} (hd : decode M.2.1 pc = .ok (.getstatic idx, 3)) (hk : Cond.fieldLink M.1.cls idx "jdk/internal/util/Preconditions" "SIOOBE_FORMATTER" "Ljava/util/function/BiFunction;" ∈ lw_tbl) (k : ∀ v : Value, (v = .null ∨ v = .ref 998) → jWP w l M d kc ks Qn Qx (pc + 3) ls (v :: st) σ) : jWP w l M d kc ks Qn Qx pc ls st σ := by
  intro p e s m args below meth c H LS locs cells slots mc ms hF hR hl hz hv h3 h4
  have hS := jvaS hF hR hl hz
  have hF2 := hF
  obtain ⟨hx, hb, -, -, -, hown, -, -, hK, hW, -, hs2⟩ := hF
  rcases hW.2.2.2.2.2.2.2 with hZ0 | hZ0
  · have k := k .null (Or.inl rfl) p e s m args below meth c H LS locs cells slots mc ms hF2 hR hl hz hv h3 h4
    have hZ := (va_Z.moved hK.alike hZ0).kept (H1 := s.heap) (fun a _ ha => hs2 a (Nat.not_le.mp ha))
    exact va_gets hx hb hZ hS hown (jword hW hK hk rfl args) (fun x h => h) hd k
  · have k := k (.ref 998) (Or.inr rfl) p e s m args below meth c H LS locs cells slots mc ms hF2 hR hl hz hv h3 h4
    have hZ := (va_Z.moved hK.alike hZ0).kept (H1 := s.heap) (fun a _ ha => hs2 a (Nat.not_le.mp ha))
    rw [List.map_cons, jvo (by omega)] at k
    exact va_gets hx hb hZ hS hown (jword hW hK hk rfl args) (fun x h => h) hd k
theorem jx_getO {idx i : Nat} {nm ds : String} {v v' : Value} (hi : i < 1000) (hd : decode M.2.1 pc = .ok (.getfield idx, 3)) (hk : Cond.fieldLink M.1.cls idx "java/lang/String" nm ds ∈ lw_tbl)
    (hO : jWok w l → va_OF "java/lang/String" nm ds v (w.2.2.2 i) (fun q => jB w ≤ q) w.1 w.1.heap) (hv' : jvm w v' = v) (k : jWP w l M d kc ks Qn Qx (pc + 3) ls (v' :: st) σ) : jWP w l M d kc ks Qn Qx pc ls (.ref i :: st) σ := by
  intro p e s m args below meth c H LS locs cells slots mc ms hF hR hl hz hv h3 h4
  have k := k p e s m args below meth c H LS locs cells slots mc ms hF hR hl hz hv h3 h4
  obtain ⟨hx, hb, -, -, -, hown, -, -, hK, hW, -, hs2⟩ := hF
  obtain ⟨cf, k0, fi, f, cell, h1, h2, h3', h4', h5, h6⟩ := (va_OF.moved hK.alike (hO hW)).kept (H1 := H) (fun a _ ha => hR.2.2.1 a (Nat.not_le.mp ha))
  rw [List.map_cons, hv'] at k
  rw [List.map_cons, jvo hi]
  exact W.getf hx hb hown (jword hW hK hk rfl args) h1 h2 h3' h4' (v := v) h5 rfl rfl hd k
theorem jx_coder {idx i : Nat} {q : String × Nat × String × List Int32} (hq : jsr[i]? = some q) (hi : i < 500) (hd : decode M.2.1 pc = .ok (.getfield idx, 3)) (hk : Cond.fieldLink M.1.cls idx "java/lang/String" "coder" "B" ∈ lw_tbl) (k : jWP w l M d kc ks Qn Qx (pc + 3) ls (.int 0 :: st) σ) : jWP w l M d kc ks Qn Qx pc ls (.ref i :: st) σ :=
  jx_getO (by omega) hd hk (fun hW => (hW.2.2.2.2.2.1 i q hq).2.2.1) rfl k
theorem jx_value {idx i : Nat} {q : String × Nat × String × List Int32} (hq : jsr[i]? = some q) (hi : i < 500) (hd : decode M.2.1 pc = .ok (.getfield idx, 3)) (hk : Cond.fieldLink M.1.cls idx "java/lang/String" "value" "[B" ∈ lw_tbl) (k : jWP w l M d kc ks Qn Qx (pc + 3) ls (.ref (500 + i) :: st) σ) : jWP w l M d kc ks Qn Qx pc ls (.ref i :: st) σ :=
  jx_getO (by omega) hd hk (fun hW => (hW.2.2.2.2.2.1 i q hq).2.2.2.1) (jvo (by omega)) k
theorem jx_tlen {i : Nat} {q : String × Nat × String × List Int32} (hq : jsr[i]? = some q) (hi : i < 500) (hd : decode M.2.1 pc = .ok (.arraylength, 1)) (k : jWP w l M d kc ks Qn Qx (pc + 1) ls (.int (nI q.2.2.2.length) :: st) σ) : jWP w l M d kc ks Qn Qx pc ls (.ref (500 + i) :: st) σ := by
  intro p e s m args below meth c H LS locs cells slots mc ms hF hR hl hz hv h3 h4
  have k := k p e s m args below meth c H LS locs cells slots mc ms hF hR hl hz hv h3 h4
  have hS := jvaS hF hR hl hz
  obtain ⟨hx, hb, -, -, -, hown, -, -, hK, hW, -, hs2⟩ := hF
  have hT := (va_T.moved hK.alike (hW.2.2.2.2.2.1 i q hq).2.2.2.2).kept (H1 := s.heap) (fun a _ ha => hs2 a (Nat.not_le.mp ha))
  rw [List.map_cons, jvo (by omega)]
  exact va_tlen hx hb hT hS rfl hd k
theorem jx_tb {i k0 : Nat} {j : Int32} {q : String × Nat × String × List Int32} (hq : jsr[i]? = some q) (hi : i < 500) (hj : j = nI k0) (hlt : k0 < q.2.2.2.length) (hn : q.2.2.2.length < 65536) (hd : decode M.2.1 pc = .ok (.baload, 1)) (k : jWP w l M d kc ks Qn Qx (pc + 1) ls (.int (q.2.2.2.getD k0 0) :: st) σ) : jWP w l M d kc ks Qn Qx pc ls (.int j :: .ref (500 + i) :: st) σ := by
  intro p e s m args below meth c H LS locs cells slots mc ms hF hR hl hz hv h3 h4
  have k := k p e s m args below meth c H LS locs cells slots mc ms hF hR hl hz hv h3 h4
  have hS := jvaS hF hR hl hz
  obtain ⟨hx, hb, -, -, -, hown, -, -, hK, hW, -, hs2⟩ := hF
  have hT := (va_T.moved hK.alike (hW.2.2.2.2.2.1 i q hq).2.2.2.2).kept (H1 := s.heap) (fun a _ ha => hs2 a (Nat.not_le.mp ha))
  obtain ⟨hin, hcl⟩ := jin hj hlt hn
  rw [List.map_cons, List.map_cons, jvo (by omega)]
  exact va_tb hx hb hT hS hin (v := .int (q.2.2.2.getD k0 0)) (by show Value.int _ = _; rw [hcl]) hd k
end TX
