section JC
variable {w : jWD} {l : Launch} {M : jMI} {d kc ks : Nat} {Qn : Option Value → jHS → Prop} {Qx : String → jHS → Prop} {pc : Nat} {ls : List (Nat × Value)} {st : List Value} {σ : jHS}
theorem jlm_args (w : jWD) : ∀ (as : List Value) (i : Nat), lv_args i (as.map (jvm w)) = jlm w (lv_args i as)
  | [], _ => rfl
  | v :: vs, i => by
    show (i, jvm w v) :: lv_args (if (jvm w v).category = 2 then i + 2 else i + 1) (vs.map (jvm w)) = (i, jvm w v) :: jlm w (lv_args (if v.category = 2 then i + 2 else i + 1) vs)
    rw [jvm_cat, jlm_args w vs]
theorem jsl_len (w : jWD) : ∀ as : List Value, (lg_sl (as.map (jvm w))).length = (as.map Value.category).sum
  | [] => rfl
  | v :: vs => by
    have ih := jsl_len w vs
    have hc := jvm_cat w v
    simp only [lg_sl, List.map_cons, List.flatMap_cons, List.length_append, List.sum_cons] at ih ⊢
    rw [ih, hc]
    rcases lv_cat v with h | h <;> simp [h]
theorem jlow {w : jWD} {σ : jHS} {H : Heap} (h : jRel w σ H) : jB w ≤ H.size := by rw [h.2.1]; omega
theorem jCt_of (hW : jWok w l) (hy : plainName M.1.cls = true) (hh : M.2.2.2.2 = []) {as : List Value} (hlen : (as.map Value.category).sum ≤ M.2.2.1) (h : jWP w l M d kc ks Qn Qx 0 (lv_args 0 as) [] σ) : jCt w l M d kc ks as σ Qn Qx := by
  have ew : jcw M = .code M.1 M.2.1 M.2.2.1 M.2.2.2.1 := if_pos hh
  refine vx_ofW (cc := M.2.1) (maxL := M.2.2.1) (ret := M.2.2.2.1) (ws' := []) hy (by rw [ew]) ?_
  intro p e s m args below meth c s₁ B hml hex hv
  obtain ⟨rfl, hR, hK⟩ := hv
  have ht : c.exceptionTable.toList = tableOf M.2.2.2.2 := by
    rw [hh]
    exact List.eq_nil_iff_forall_not_mem.mpr (fun x hx => hex x hx)
  have hl := lv_entry (as.map (jvm w)) (n := M.2.2.1) (by rw [jsl_len]; exact hlen)
  rw [lg_entry_eq]
  rw [jlm_args] at hl
  exact h p e s m _ below meth c s.heap _ [] 0 0 kc ks ⟨B.exec, B.bytes, hml, B.returns, B.notSynchronized, findClass_of_methodNamed B.named, (name_of_methodNamed B.named B.method).1, ht, hK, hW, jlow hR, hR.2.2.1⟩ hR (fun _ hq => by cases hq) (Nat.le_refl _) hl (by omega) (by omega)
theorem jCt_ofH (hW : jWok w l) (hy : plainName M.1.cls = true) (hh : M.2.2.2.2 ≠ []) {as : List Value} (hlen : (as.map Value.category).sum ≤ M.2.2.1) (h : jWP w l M d kc ks Qn Qx 0 (lv_args 0 as) [] σ) : jCt w l M d kc ks as σ Qn Qx := by
  have ew : jcw M = .codeWith M.1 M.2.1 M.2.2.1 M.2.2.2.1 M.2.2.2.2 := if_neg hh
  refine vx_ofWH (cc := M.2.1) (maxL := M.2.2.1) (ret := M.2.2.2.1) (hh := M.2.2.2.2) (ws' := []) hy (by rw [ew]) ?_
  intro p e s m args below meth c s₁ B hml hv
  obtain ⟨rfl, hR, hK⟩ := hv
  have ht : c.exceptionTable.toList = tableOf M.2.2.2.2 := vx_table (x := M.1) B (atoms_spec (ws := [jcw M]) B.pre _ (by rw [ew]; exact List.mem_cons_self))
  have hl := lv_entry (as.map (jvm w)) (n := M.2.2.1) (by rw [jsl_len]; exact hlen)
  rw [lg_entry_eq]
  rw [jlm_args] at hl
  exact h p e s m _ below meth c s.heap _ [] 0 0 kc ks ⟨B.exec, B.bytes, hml, B.returns, B.notSynchronized, findClass_of_methodNamed B.named, (name_of_methodNamed B.named B.method).1, ht, hK, hW, jlow hR, hR.2.2.1⟩ hR (fun _ hq => by cases hq) (Nat.le_refl _) hl (by omega) (by omega)
/-- a callee: its words are in the tables; np parameters -/
def jOK (N : jMI) (np : Nat) : Prop := Cond.initialized N.1.cls ∈ lw_tbl ∧ Cond.code N.1 N.2.1 N.2.2.1 N.2.2.2.1 ∈ lw_tbl ∧ N.2.2.2.2 = [] ∧ (N.1.cls ≠ "java/lang/invoke/MethodHandle" ∧ N.1.cls ≠ "java/lang/invoke/VarHandle") ∧ (parseMethodDescriptor N.1.desc).map (fun d => d.parameters.length) = some np ∧ N.2.2.1 ≤ 80
def jVir (N : jMI) : Prop := Cond.instanceMethod N.1 ∈ lw_tbl ∧ Cond.selects N.1.cls N.1 N.1 ∈ lw_tbl
def jPc (w : jWD) (as : List Value) (σ : jHS) : Array Value → State → Prop := fun args U => args = (as.map (jvm w)).toArray ∧ jRel w σ U.heap ∧ w.1.WarmedH U.vm
theorem jPc_blind (w : jWD) (as : List Value) (σ : jHS) : FrameBlind (jPc w as σ) := fun _ _ _ _ q => q
theorem jcat_sum (w : jWD) (st : List Value) : ((st.map (jvm w)).map fun v => v.category).sum = (st.map Value.category).sum := by
  rw [List.map_map]
  congr 1
  exact List.map_congr_left (fun v _ => jvm_cat w v)
section
variable {N : jMI} {idx a ci d' kc' ks' np : Nat} {as : List Value} {r : vw_C} {Qn' : Option Value → jHS → Prop} {Qx' : String → jHS → Prop}
theorem jCallB {p : Program} {s : State} {m : MethodId} {args : Array Value} {meth : Method} {c : Code} {mc ms : Nat} (hF : jFx w l M p s m meth c) (hl : Cond.methodLink M.1.cls idx N.1 ∈ lw_tbl) (hN : jOK N np) (hdd : d' < d) :
    CallB (jrm d mc ms) s args M.1.cls idx N.1 N.2.1 N.2.2.1 N.2.2.2.1 [jcw N] (jrm d' kc' ks') kc' ks' np := by
  obtain ⟨hx, hb, -, -, -, -, -, -, hK, hW, -⟩ := hF
  obtain ⟨n1, n2, n3, n4, n5, n6⟩ := hN
  have ew : jcw N = .code N.1 N.2.1 N.2.2.1 N.2.2.2.1 := if_pos n3
  refine ⟨rfl, rfl, ?_, ?_, fun c hc a' U hU => ?_, by rw [ew]; exact List.mem_cons_self, jword hW hK n2 rfl args, jword hW hK n1 rfl args, n4, fun sig h => ?_, jword hW hK hl rfl args⟩
  · show d' + 6 + 1 ≤ d + 6
    omega
  · show 8 + (N.2.2.1 + 11) + 100 * (d' + 1) ≤ 100 * (d + 1)
    omega
  · rw [List.mem_singleton.mp hc, ew]
    exact jword hW (State.WarmedH.trans hK hU) n2 rfl a'
  · rw [h] at n5
    exact (Option.some.inj n5).symm
theorem jstack (w : jWD) (as st : List Value) (a : Nat) : (as.reverse ++ .ref a :: st).map (jvm w) = (as.map (jvm w)).reverse ++ .ref (jphi w a) :: st.map (jvm w) := by
  rw [List.map_append, List.map_reverse]; rfl
/-- behind a call that returns or throws past this method -/
theorem jx_vrun {p : Program} {e : Env} {s : State} {m : MethodId} {args : Array Value} {below : List Frame} {meth : Method} {c : Code} {H : Heap} {LS : Array Slot} {locs : List Loc} {cells slots mc ms : Nat} {st0 : List Value} {av : Array Value}
    (hF : jFx w l M p s m meth c) (hM : M.2.2.2.2 = []) (hl : ∀ q ∈ locs, jB w ≤ q.base) (hz : s.heap.size ≤ H.size) (hv : lv_has LS M.2.2.1 (jlm w ls)) (h1 : cells + kc ≤ mc) (h2 : slots + ks ≤ ms) (hkc : kc' ≤ kc) (hks : ks' ≤ ks)
    (hr : vx_Run p l e (jrm d mc ms) s m args below meth c H locs cells slots kc' ks' (F0 m pc LS st0) (st.map (jvm w)) (jQC w Qn' av) (jXC w Qx') (jfree w))
    (kn : ∀ v t, Qn' v t → jWP w l M d (kc - kc') (ks - ks') Qn Qx (pc + 3) ls (v.toList ++ st) t) (kx : ∀ E t, Qx' E t → Qx E t) :
    W p l e (jrm d mc ms) s m args below meth c H locs cells slots (vx_MQ below (jQC w Qn) (jXC w Qx) args s mc ms (jfree w)) (F0 m pc LS st0) := by
  intro T hT X
  have app : ∀ {L : List Loc}, (∀ q ∈ L, jfree w q.base) → ∀ q ∈ locs ++ L, jB w ≤ q.base := fun hL q hq => (List.mem_append.mp hq).elim (hl q) (hL q)
  rcases hr T hT X with ⟨v, st₀, t, T', L, h0, X', hL, e1, e2, ⟨v', t', hv', hq, hrel⟩, go⟩ | ⟨q, st₀, t, T', L, E, ce, h0, X', hL, e1, e2, ⟨t', hq, hrel⟩, hce, hcv, hcl, go⟩
  · cases hv'
    rw [← e1] at hrel
    have hsz : s.heap.size ≤ T'.heap.size := (vx_frame X'.same).1
    have k := kn v' t' hq p e s m args below meth c T'.heap LS (locs ++ L) (cells + kc') (slots + ks') mc ms hF hrel (app hL) hsz hv (by omega) (by omega) T' rfl X'
    obtain ⟨t2, a1, b1⟩ := k
    have es : (v'.map (jvm w)).toList ++ st.map (jvm w) = (v'.toList ++ st).map (jvm w) := by cases v' <;> rfl
    rw [es] at go
    exact ⟨t2, go t2 a1, b1⟩
  · rw [← e1] at hrel hce
    obtain ⟨t2, a1, b1⟩ := vx_out (Qc := jQC w Qn) (XC := jXC w Qx) (mc := mc) (ms := ms) (free := jfree w) (pc := pc) (ls := LS) (rest := st.map (jvm w)) (E := E) (ce := ce) (q := q) (hout := fun x hx => by rw [hF.2.2.2.2.2.2.2.1, hM] at hx; cases hx) (hlocks := hF.2.2.2.2.1) (hcell := hce) (hv := hcv) (hcl := hcl)
      (hx := fun t2 ht2 _ => ⟨t', kx E t' hq, by rw [ht2]; exact hrel⟩) (hf := app hL) (hc := by omega) (hs := by omega) T' rfl X'
    exact ⟨t2, go.trans a1, b1⟩
theorem jx_invV (hd : decode M.2.1 pc = .ok (.invokevirtual idx, 3)) (hl : Cond.methodLink M.1.cls idx N.1 ∈ lw_tbl) (hN : jOK N np) (hV : jVir N) (hM : M.2.2.2.2 = [])
    (hs : σ.2.1 a = (0, ci)) (hr : vwCl[ci]? = some r) (hrc : r.1 = N.1.cls) (hlen : as.length = np) (hdd : d' < d) (hkc : kc' ≤ kc) (hks : ks' ≤ ks) (hst : (st.map Value.category).sum ≤ 8)
    (hC : jCt w l N d' kc' ks' (.ref a :: as) σ Qn' Qx')
    (kn : ∀ v t, Qn' v t → jWP w l M d (kc - kc') (ks - ks') Qn Qx (pc + 3) ls (v.toList ++ st) t) (kx : ∀ E t, Qx' E t → Qx E t) : jWP w l M d kc ks Qn Qx pc ls (as.reverse ++ .ref a :: st) σ := by
  intro p e s m args below meth c H LS locs cells slots mc ms hF hR hlo hz hv h1 h2
  have hcb := jCallB (args := args) (mc := mc) (ms := ms) (d := d) (d' := d') (kc' := kc') (ks' := ks') hF hl hN hdd
  refine jx_vrun (av := ((Value.ref (jphi w a) :: as.map (jvm w)).toArray)) hF hM hlo hz hv h1 h2 hkc hks ?_ kn kx
  obtain ⟨hx, hb, hml, -, -, hown, -, -, hK, hW, -⟩ := hF
  obtain ⟨-, -, r', hr', cell, q1, q2, q3, -⟩ := hR.2.2.2.1 a ci hs
  have hrr : r' = r := Option.some.inj (hr'.symm.trans hr)
  subst hrr
  have hcls := ((va_K.moved hK.alike hW.2.1).1 ci _ hr).2.1
  refine vx_runV (Ts := []) (C := N.1.cls) (b := jphi w a) (As := as.map (jvm w)) (Pc := jPc w (.ref a :: as) σ) ⟨hx, hb, hml, hown, fun _ h => by cases h⟩ hC ⟨hcb, jword hW hK hV.1 rfl args, jword hW hK hV.2 rfl args⟩ ⟨jPc_blind _ _ _, ⟨cell, q1, by rw [q3]; rfl, by rw [q2, ← hrc]; exact hcls⟩, fun U hU hWm => ⟨rfl, by rw [hU]; exact hR, State.WarmedH.trans hK hWm⟩⟩ rfl (by rw [List.length_map]; exact hlen) hv.1 (jstack w as st a) ?_ hd ⟨?_, ?_⟩
  · exact lv_room (by rw [jcat_sum]; exact hst)
  · show cells + kc' ≤ mc
    omega
  · show slots + ks' ≤ ms
    omega
theorem jx_invS (hd : decode M.2.1 pc = .ok (.invokestatic idx, 3)) (hl : Cond.methodLink M.1.cls idx N.1 ∈ lw_tbl) (hN : jOK N np) (hV : Cond.static N.1 ∈ lw_tbl) (hM : M.2.2.2.2 = [])
    (hlen : as.length = np) (hdd : d' < d) (hkc : kc' ≤ kc) (hks : ks' ≤ ks) (hst : (st.map Value.category).sum ≤ 8)
    (hC : jCt w l N d' kc' ks' as σ Qn' Qx')
    (kn : ∀ v t, Qn' v t → jWP w l M d (kc - kc') (ks - ks') Qn Qx (pc + 3) ls (v.toList ++ st) t) (kx : ∀ E t, Qx' E t → Qx E t) : jWP w l M d kc ks Qn Qx pc ls (as.reverse ++ st) σ := by
  intro p e s m args below meth c H LS locs cells slots mc ms hF hR hlo hz hv h1 h2
  have hcb := jCallB (args := args) (mc := mc) (ms := ms) (d := d) (d' := d') (kc' := kc') (ks' := ks') hF hl hN hdd
  refine jx_vrun (av := ((as.map (jvm w)).toArray)) hF hM hlo hz hv h1 h2 hkc hks ?_ kn kx
  obtain ⟨hx, hb, hml, -, -, hown, -, -, hK, hW, -⟩ := hF
  refine vx_runS (Ts := []) (As := as.map (jvm w)) (Pc := jPc w as σ) ⟨hx, hb, hml, hown, fun _ h => by cases h⟩ hC ⟨hcb, jword hW hK hV rfl args⟩ ⟨jPc_blind _ _ _, fun U hU hWm => ⟨rfl, by rw [hU]; exact hR, State.WarmedH.trans hK hWm⟩⟩ rfl (by rw [List.length_map]; exact hlen) hv.1 ?_ ?_ hd ⟨?_, ?_⟩
  · show (as.reverse ++ st).map (jvm w) = _
    rw [List.map_append, List.map_reverse]
  · exact lv_room (by rw [jcat_sum]; exact hst)
  · show cells + kc' ≤ mc
    omega
  · show slots + ks' ≤ ms
    omega
/-- a contract without throws -/
theorem jCt.met (hC : jCt w l N d' kc' ks' as σ Qn' Qx') (hx : ∀ E t, ¬ Qx' E t) : Met l N.1 [jcw N] (jrm d' kc' ks') (jPc w as σ) (jQC w Qn') kc' ks' (jfree w) := by
  intro p e h1 h2 h3 s m args below hf ha hP hk
  obtain ⟨n, o, b1, b2, b3, hq⟩ := hC p e h1 h2 h3 s m args below hf ha hP hk
  refine ⟨n, o, b1, b2, b3, ?_⟩
  rcases hq with h | ⟨q, _, E, ce, L, ⟨t, hxx, _⟩, _⟩
  · exact h
  · exact absurd hxx (hx E t)
theorem jx_arun {p : Program} {e : Env} {s : State} {m : MethodId} {args : Array Value} {below : List Frame} {meth : Method} {c : Code} {H : Heap} {LS : Array Slot} {locs : List Loc} {cells slots mc ms : Nat} {st0 : List Value} {av : Array Value}
    (hF : jFx w l M p s m meth c) (hl : ∀ q ∈ locs, jB w ≤ q.base) (hv : lv_has LS M.2.2.1 (jlm w ls)) (h1 : cells + kc ≤ mc) (h2 : slots + ks ≤ ms) (hkc : kc' ≤ kc) (hks : ks' ≤ ks)
    (hr : va_Run p l e (jrm d mc ms) s m args below meth c H locs cells slots kc' ks' (F0 m pc LS st0) (st.map (jvm w)) (jQC w Qn' av) (jfree w))
    (kn : ∀ v t, Qn' v t → jWP w l M d (kc - kc') (ks - ks') Qn Qx (pc + 3) ls (v.toList ++ st) t) :
    W p l e (jrm d mc ms) s m args below meth c H locs cells slots (vx_MQ below (jQC w Qn) (jXC w Qx) args s mc ms (jfree w)) (F0 m pc LS st0) := by
  intro T hT X
  have app : ∀ {L : List Loc}, (∀ q ∈ L, jfree w q.base) → ∀ q ∈ locs ++ L, jB w ≤ q.base := fun hL q hq => (List.mem_append.mp hq).elim (hl q) (hL q)
  obtain ⟨v, st₀, t, T', L, h0, X', hL, e1, e2, ⟨v', t', hv', hq, hrel⟩, go⟩ := hr T hT X
  cases hv'
  rw [← e1] at hrel
  have hsz : s.heap.size ≤ T'.heap.size := (vx_frame X'.same).1
  obtain ⟨t2, a1, b1⟩ := kn v' t' hq p e s m args below meth c T'.heap LS (locs ++ L) (cells + kc') (slots + ks') mc ms hF hrel (app hL) hsz hv (by omega) (by omega) T' rfl X'
  have es : (v'.map (jvm w)).toList ++ st.map (jvm w) = (v'.toList ++ st).map (jvm w) := by cases v' <;> rfl
  rw [es] at go
  exact ⟨t2, go t2 a1, b1⟩
/-- a constructor's call -/
theorem jx_invI (hd : decode M.2.1 pc = .ok (.invokespecial idx, 3)) (hl : Cond.methodLink M.1.cls idx N.1 ∈ lw_tbl) (hN : jOK N np) (hV : Cond.instanceMethod N.1 ∈ lw_tbl) (hnm : N.1.name = "<init>") (hret : N.2.2.2.1 = none)
    (hlen : as.length = np) (hdd : d' < d) (hkc : kc' ≤ kc) (hks : ks' ≤ ks) (hst : (st.map Value.category).sum ≤ 8)
    (hC : jCt w l N d' kc' ks' (.ref a :: as) σ Qn' Qx') (hx : ∀ E t, ¬ Qx' E t)
    (kn : ∀ v t, Qn' v t → jWP w l M d (kc - kc') (ks - ks') Qn Qx (pc + 3) ls (v.toList ++ st) t) : jWP w l M d kc ks Qn Qx pc ls (as.reverse ++ .ref a :: st) σ := by
  intro p e s m args below meth c H LS locs cells slots mc ms hF hR hlo hz hv h1 h2
  have hcb := jCallB (args := args) (mc := mc) (ms := ms) (d := d) (d' := d') (kc' := kc') (ks' := ks') hF hl hN hdd
  rw [hret] at hcb
  refine jx_arun (av := ((Value.ref (jphi w a) :: as.map (jvm w)).toArray)) hF hlo hv h1 h2 hkc hks ?_ kn
  obtain ⟨hx1, hb, hml, -, -, hown, -, -, hK, hW, -⟩ := hF
  refine va_runI (Ts := []) (b := jphi w a) (As := as.map (jvm w)) (Pc := jPc w (.ref a :: as) σ) ⟨hx1, hb, hml, hown, fun _ h => by cases h⟩ (hC.met hx) ⟨hcb, hnm, jword hW hK hV rfl args⟩ ⟨jPc_blind _ _ _, fun U hU hWm => ⟨rfl, by rw [hU]; exact hR, State.WarmedH.trans hK hWm⟩⟩ rfl (by rw [List.length_map]; exact hlen) hv.1 (jstack w as st a) ?_ hd ⟨?_, ?_⟩
  · exact lv_room (by rw [jcat_sum]; exact hst)
  · show cells + kc' ≤ mc
    omega
  · show slots + ks' ≤ ms
    omega
theorem jCallN {host : String} {p : Program} {s : State} {m : MethodId} {args : Array Value} {meth : Method} {c : Code} {mc ms : Nat} (hF : jFx w l M p s m meth c) (hl : Cond.methodLinkNest M.1.cls idx N.1 host ∈ lw_tbl) (hN : jOK N np) (hdd : d' < d) :
    va_CN (jrm d mc ms) s args M.1.cls idx N.1 host N.2.1 N.2.2.1 N.2.2.2.1 [jcw N] (jrm d' kc' ks') kc' ks' np := by
  obtain ⟨hx, hb, -, -, -, -, -, -, hK, hW, -⟩ := hF
  obtain ⟨n1, n2, n3, n4, n5, n6⟩ := hN
  have ew : jcw N = .code N.1 N.2.1 N.2.2.1 N.2.2.2.1 := if_pos n3
  obtain ⟨args0, h0⟩ := hW.1
  refine ⟨⟨rfl, rfl, ?_, ?_, fun c hc a' U hU => ?_, by rw [ew]; exact List.mem_cons_self⟩, jword hW hK n2 rfl args, jword hW hK n1 rfl args, n4, fun sig h => ?_, va_Nw.use rfl (va_Nw.warmM hK (va_Nw.of rfl (h0 _ hl)))⟩
  · show d' + 6 + 1 ≤ d + 6
    omega
  · show 8 + (N.2.2.1 + 11) + 100 * (d' + 1) ≤ 100 * (d + 1)
    omega
  · rw [List.mem_singleton.mp hc, ew]
    exact jword hW (State.WarmedH.trans hK hU) n2 rfl a'
  · rw [h] at n5
    exact (Option.some.inj n5).symm
/-- a private constructor of a nest mate -/
theorem jx_invIN {host : String} (hd : decode M.2.1 pc = .ok (.invokespecial idx, 3)) (hl : Cond.methodLinkNest M.1.cls idx N.1 host ∈ lw_tbl) (hN : jOK N np) (hV : Cond.instanceMethod N.1 ∈ lw_tbl) (hnm : N.1.name = "<init>") (hret : N.2.2.2.1 = none)
    (hlen : as.length = np) (hdd : d' < d) (hkc : kc' ≤ kc) (hks : ks' ≤ ks) (hst : (st.map Value.category).sum ≤ 8)
    (hC : jCt w l N d' kc' ks' (.ref a :: as) σ Qn' Qx') (hx : ∀ E t, ¬ Qx' E t)
    (kn : ∀ v t, Qn' v t → jWP w l M d (kc - kc') (ks - ks') Qn Qx (pc + 3) ls (v.toList ++ st) t) : jWP w l M d kc ks Qn Qx pc ls (as.reverse ++ .ref a :: st) σ := by
  intro p e s m args below meth c H LS locs cells slots mc ms hF hR hlo hz hv h1 h2
  have hcb := jCallN (args := args) (mc := mc) (ms := ms) (d := d) (d' := d') (kc' := kc') (ks' := ks') hF hl hN hdd
  rw [hret] at hcb
  refine jx_arun (av := ((Value.ref (jphi w a) :: as.map (jvm w)).toArray)) hF hlo hv h1 h2 hkc hks ?_ kn
  obtain ⟨hx1, hb, hml, -, -, hown, -, -, hK, hW, -⟩ := hF
  refine va_runIN (Ts := []) (b := jphi w a) (As := as.map (jvm w)) (Pc := jPc w (.ref a :: as) σ) ⟨hx1, hb, hml, hown, fun _ h => by cases h⟩ (hC.met hx) ⟨hcb, hnm, jword hW hK hV rfl args⟩ ⟨jPc_blind _ _ _, fun U hU hWm => ⟨rfl, by rw [hU]; exact hR, State.WarmedH.trans hK hWm⟩⟩ rfl (by rw [List.length_map]; exact hlen) hv.1 (jstack w as st a) ?_ hd ⟨?_, ?_⟩
  · exact lv_room (by rw [jcat_sum]; exact hst)
  · show cells + kc' ≤ mc
    omega
  · show slots + ks' ≤ ms
    omega
/-- a private static method of a nest mate -/
theorem jx_invSN {host : String} (hd : decode M.2.1 pc = .ok (.invokestatic idx, 3)) (hl : Cond.methodLinkNest M.1.cls idx N.1 host ∈ lw_tbl) (hN : jOK N np) (hV : Cond.static N.1 ∈ lw_tbl)
    (hlen : as.length = np) (hdd : d' < d) (hkc : kc' ≤ kc) (hks : ks' ≤ ks) (hst : (st.map Value.category).sum ≤ 8)
    (hC : jCt w l N d' kc' ks' as σ Qn' Qx') (hx : ∀ E t, ¬ Qx' E t)
    (kn : ∀ v t, Qn' v t → jWP w l M d (kc - kc') (ks - ks') Qn Qx (pc + 3) ls (v.toList ++ st) t) : jWP w l M d kc ks Qn Qx pc ls (as.reverse ++ st) σ := by
  intro p e s m args below meth c H LS locs cells slots mc ms hF hR hlo hz hv h1 h2
  have hcb := jCallN (args := args) (mc := mc) (ms := ms) (d := d) (d' := d') (kc' := kc') (ks' := ks') hF hl hN hdd
  refine jx_arun (av := ((as.map (jvm w)).toArray)) hF hlo hv h1 h2 hkc hks ?_ kn
  obtain ⟨hx1, hb, hml, -, -, hown, -, -, hK, hW, -⟩ := hF
  refine va_runSN (Ts := []) (As := as.map (jvm w)) (Pc := jPc w as σ) ⟨hx1, hb, hml, hown, fun _ h => by cases h⟩ (hC.met hx) ⟨hcb, jword hW hK hV rfl args, trivial⟩ ⟨jPc_blind _ _ _, fun U hU hWm => ⟨rfl, by rw [hU]; exact hR, State.WarmedH.trans hK hWm⟩⟩ rfl (by rw [List.length_map]; exact hlen) hv.1 ?_ ?_ hd ⟨?_, ?_⟩
  · show (as.reverse ++ st).map (jvm w) = _
    rw [List.map_append, List.map_reverse]
  · exact lv_room (by rw [jcat_sum]; exact hst)
  · show cells + kc' ≤ mc
    omega
  · show slots + ks' ≤ ms
    omega
theorem jx_objInit {a idx : Nat} (hd : decode M.2.1 pc = .ok (.invokespecial idx, 3)) (hl : Cond.methodLink M.1.cls idx Lib.objectInit ∈ lw_tbl) (h2w : Cond.instanceMethod Lib.objectInit ∈ lw_tbl) (h3w : Cond.code Lib.objectInit ⟨#[0xb1]⟩ 1 none ∈ lw_tbl) (hst : (st.map Value.category).sum ≤ 8)
    (k : jWP w l M d kc ks Qn Qx (pc + 3) ls st σ) : jWP w l M d kc ks Qn Qx pc ls (.ref a :: st) σ := by
  intro p e s m args below meth c H LS locs cells slots mc ms hF hR hlo hz hv h1 h2
  have k := k p e s m args below meth c H LS locs cells slots mc ms hF hR hlo hz hv h1 h2
  obtain ⟨hx, hb, hml, -, -, hown, -, -, hK, hW, -⟩ := hF
  refine W.objInit hx hb hown (jword hW hK hl rfl args) (jword hW hK h2w rfl args) (jword hW hK h3w rfl args) rfl (hv.1.trans hml.symm) (a := jphi w a) (rest := st.map (jvm w)) rfl hd ?_ ?_ k
  · show 1 ≤ d + 6
    omega
  · have := jcat_sum w st
    show 2 * 0 + _ + 12 ≤ 100 * (d + 1)
    omega
end
end JC
