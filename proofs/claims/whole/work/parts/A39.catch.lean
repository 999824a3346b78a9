/-! THE MACHINE LAYER: what is caught; a static call of a method with handlers; the script -/
section JK
variable {w : jWD} {l : Launch} {M : jMI} {d kc ks : Nat} {Qn : Option Value → jHS → Prop} {Qx : String → jHS → Prop} {pc : Nat} {ls : List (Nat × Value)} {st : List Value} {σ : jHS}
/-- the row of M's table that takes an E thrown at pc leads to hp -/
def jCa (w : jWD) (M : jMI) (pc : Nat) (E : String) (hp : Nat) : Prop :=
  ∃ (pre : List (Nat × Nat × Nat × Nat)) (x : Nat × Nat × Nat × Nat) (suf : List (Nat × Nat × Nat × Nat)) (nm : String), M.2.2.2.2 = pre ++ x :: suf ∧ covers ⟨x.1, x.2.1, x.2.2.1, x.2.2.2⟩ pc = true ∧ x.2.2.1 = hp ∧ x.2.2.2 ≠ 0 ∧ Cond.classLink M.1.cls x.2.2.2 nm ∈ lw_tbl ∧ Cond.castable E nm ∈ lw_tbl ∧ ∀ z ∈ pre, z.2.2.2 ≠ 0 ∧ ∃ nm2 : String, Cond.classLink M.1.cls z.2.2.2 nm2 ∈ lw_tbl ∧ va_Nc E nm2 w.1
def jSt (M : jMI) (hp len : Nat) : Prop := (∃ kk : Fin 4, decode M.2.1 hp = .ok (.astore_n kk, 1) ∧ (kk : Nat) < M.2.2.1 ∧ len = 1) ∨ ∃ i : Nat, decode M.2.1 hp = .ok (.astore i, 2) ∧ i < M.2.2.1 ∧ len = 2
theorem jWP_mono {kc' ks' : Nat} (h1 : kc' ≤ kc) (h2 : ks' ≤ ks) (k : jWP w l M d kc' ks' Qn Qx pc ls st σ) : jWP w l M d kc ks Qn Qx pc ls st σ :=
  fun p e s m args below meth c H LS locs cells slots mc ms hF hR hl hz hv g1 g2 => k p e s m args below meth c H LS locs cells slots mc ms hF hR hl hz hv (by omega) (by omega)
section
variable {N : jMI} {idx a ci d' kc' ks' np : Nat} {as : List Value} {r : vw_C} {Qn' : Option Value → jHS → Prop} {Qx' : String → jHS → Prop}
theorem jx_vrunC {p : Program} {e : Env} {s : State} {m : MethodId} {args : Array Value} {below : List Frame} {meth : Method} {c : Code} {H : Heap} {LS : Array Slot} {locs : List Loc} {cells slots mc ms : Nat} {st0 : List Value} {av : Array Value}
    (hF : jFx w l M p s m meth c) (hl : ∀ q ∈ locs, jB w ≤ q.base) (hz : s.heap.size ≤ H.size) (hv : lv_has LS M.2.2.1 (jlm w ls)) (h1 : cells + kc ≤ mc) (h2 : slots + ks ≤ ms) (hkc : kc' ≤ kc) (hks : ks' ≤ ks)
    (hr : vx_Run p l e (jrm d mc ms) s m args below meth c H locs cells slots kc' ks' (F0 m pc LS st0) (st.map (jvm w)) (jQC w Qn' av) (jXC w Qx') (jfree w))
    (kn : ∀ v t, Qn' v t → jWP w l M d (kc - kc') (ks - ks') Qn Qx (pc + 3) ls (v.toList ++ st) t)
    (kx : ∀ E t, Qx' E t → ∃ hp len, jCa w M pc E hp ∧ jSt M hp len ∧ jWP w l M d (kc - kc') (ks - ks') Qn Qx (hp + len) [] [] t) :
    W p l e (jrm d mc ms) s m args below meth c H locs cells slots (vx_MQ below (jQC w Qn) (jXC w Qx) args s mc ms (jfree w)) (F0 m pc LS st0) := by
  intro T hT X
  have app : ∀ {L : List Loc}, (∀ q ∈ L, jfree w q.base) → ∀ q ∈ locs ++ L, jB w ≤ q.base := fun hL q hq => (List.mem_append.mp hq).elim (hl q) (hL q)
  rcases hr T hT X with ⟨v, st₀, t, T', L, h0, X', hL, e1, e2, ⟨v', t', hv', hq, hrel⟩, go⟩ | ⟨q, st₀, t, T', L, E, ce, h0, X', hL, e1, e2, ⟨t', hq, hrel⟩, hce, hcv, hcl, go⟩
  · cases hv'
    rw [← e1] at hrel
    have hsz : s.heap.size ≤ T'.heap.size := (vx_frame X'.same).1
    have k := kn v' t' hq p e s m args below meth c T'.heap LS (locs ++ L) (cells + kc') (slots + ks') mc ms hF hrel (app hL) hsz hv (by omega) (by omega) T' rfl X'
    obtain ⟨t2, a1, b1⟩ := k
    have es : (v'.map (jvm w)).toList ++ st.map (jvm w) = (v'.toList ++ st).map (jvm w) := by cases v' <;> rfl
    rw [es] at go
    exact ⟨t2, go t2 a1, b1⟩
  · rw [← e1] at hrel hce
    have hsz : s.heap.size ≤ T'.heap.size := (vx_frame X'.same).1
    obtain ⟨hp, len, ⟨pre, x, suf, nm, g1, g2, g3, g4, g5, g6, g7⟩, hst, k⟩ := kx E t' hq
    have hK : w.1.WarmedH s.vm := hF.2.2.2.2.2.2.2.2.1
    have hW : jWok w l := hF.2.2.2.2.2.2.2.2.2.1
    have hsp : c.exceptionTable.toList = tableOf pre ++ (⟨x.1, x.2.1, x.2.2.1, x.2.2.2⟩ : ExceptionTableEntry) :: tableOf suf := by
      rw [hF.2.2.2.2.2.2.2.1, g1]
      simp [tableOf]
    obtain ⟨t2, a1, b1⟩ := vx_catch (Q := vx_MQ below (jQC w Qn) (jXC w Qx) args s mc ms (jfree w)) (pc := pc) (ls := LS) (rest := st.map (jvm w)) (E := E) (ce := ce) (q := q) (own := M.1.cls) (name := nm) hF.2.2.2.2.2.1 (tableOf pre) _ (tableOf suf) hsp
      (fun z hz => by
        obtain ⟨z0, hz0, rfl⟩ := List.mem_map.mp hz
        obtain ⟨n1, nm2, n2, n3⟩ := g7 z0 hz0
        exact Or.inr ⟨n1, nm2, jword hW hK n2 rfl args, va_Nc.moved hK.alike n3⟩) g2 g4 (jword hW hK g5 rfl args) (jword2 hW hK g6 rfl args) hce hcv hcl
      (by
        show W p l e (jrm d mc ms) s m args below meth c T'.heap (locs ++ L) (cells + kc') (slots + ks') _ (F0 m x.2.2.1 LS [.ref q])
        rw [g3]
        rcases hst with ⟨kk, s1, s2, s3⟩ | ⟨i, s1, s2, s3⟩
        · subst s3
          exact lv_astore_n hF.1 hF.2.1 s1 rfl hv s2 rfl (fun LS1 hv1 => k p e s m args below meth c T'.heap LS1 (locs ++ L) (cells + kc') (slots + ks') mc ms hF hrel (app hL) hsz ⟨hv1.1, hv1.2.1, fun q hq => by cases hq⟩ (by omega) (by omega))
        · subst s3
          exact lv_astore hF.1 hF.2.1 s1 hv s2 rfl (fun LS1 hv1 => k p e s m args below meth c T'.heap LS1 (locs ++ L) (cells + kc') (slots + ks') mc ms hF hrel (app hL) hsz ⟨hv1.1, hv1.2.1, fun q hq => by cases hq⟩ (by omega) (by omega))) T' rfl X'
    exact ⟨t2, go.trans a1, b1⟩
theorem jx_invVC (hd : decode M.2.1 pc = .ok (.invokevirtual idx, 3)) (hl : Cond.methodLink M.1.cls idx N.1 ∈ lw_tbl) (hN : jOK N np) (hV : jVir N)
    (hs : σ.2.1 a = (0, ci)) (hr : vwCl[ci]? = some r) (hrc : r.1 = N.1.cls) (hlen : as.length = np) (hdd : d' < d) (hkc : kc' ≤ kc) (hks : ks' ≤ ks) (hst : (st.map Value.category).sum ≤ 8)
    (hC : jCt w l N d' kc' ks' (.ref a :: as) σ Qn' Qx')
    (kn : ∀ v t, Qn' v t → jWP w l M d (kc - kc') (ks - ks') Qn Qx (pc + 3) ls (v.toList ++ st) t)
    (kx : ∀ E t, Qx' E t → ∃ hp len, jCa w M pc E hp ∧ jSt M hp len ∧ jWP w l M d (kc - kc') (ks - ks') Qn Qx (hp + len) [] [] t) : jWP w l M d kc ks Qn Qx pc ls (as.reverse ++ .ref a :: st) σ := by
  intro p e s m args below meth c H LS locs cells slots mc ms hF hR hlo hz hv h1 h2
  have hcb := jCallB (args := args) (mc := mc) (ms := ms) (d := d) (d' := d') (kc' := kc') (ks' := ks') hF hl hN hdd
  refine jx_vrunC (av := ((Value.ref (jphi w a) :: as.map (jvm w)).toArray)) hF hlo hz hv h1 h2 hkc hks ?_ kn kx
  obtain ⟨hx, hb, hml, -, -, hown, -, -, hK, hW, -⟩ := hF
  obtain ⟨-, -, r', hr', cell, q1, q2, q3, -⟩ := hR.2.2.2.1 a ci hs
  have hrr : r' = r := Option.some.inj (hr'.symm.trans hr)
  subst hrr
  have hcls := ((va_K.moved hK.alike hW.2.1).1 ci _ hr).2.1
  refine vx_runV (Ts := []) (C := N.1.cls) (b := jphi w a) (As := as.map (jvm w)) (Pc := jPc w (.ref a :: as) σ) ⟨hx, hb, hml, hown, fun _ h => by cases h⟩ hC ⟨hcb, jword hW hK hV.1 rfl args, jword hW hK hV.2 rfl args⟩ ⟨jPc_blind _ _ _, ⟨cell, q1, by rw [q3]; rfl, by rw [q2, ← hrc]; exact hcls⟩, fun U hU hWm => ⟨rfl, by rw [hU]; exact hR, State.WarmedH.trans hK hWm⟩⟩ rfl (by rw [List.length_map]; exact hlen) hv.1 (jstack w as st a) ?_ hd ⟨?_, ?_⟩
  · exact lv_room (by rw [jcat_sum]; exact hst)
  · show cells + kc' ≤ mc
    omega
  · show slots + ks' ≤ ms
    omega
/-- a callee with handlers -/
def jOW (N : jMI) (np : Nat) : Prop := Cond.initialized N.1.cls ∈ lw_tbl ∧ Cond.codeWith N.1 N.2.1 N.2.2.1 N.2.2.2.1 N.2.2.2.2 ∈ lw_tbl ∧ N.2.2.2.2 ≠ [] ∧ (N.1.cls ≠ "java/lang/invoke/MethodHandle" ∧ N.1.cls ≠ "java/lang/invoke/VarHandle") ∧ (parseMethodDescriptor N.1.desc).map (fun d => d.parameters.length) = some np ∧ N.2.2.1 ≤ 80
theorem jx_invSW (hd : decode M.2.1 pc = .ok (.invokestatic idx, 3)) (hl : Cond.methodLink M.1.cls idx N.1 ∈ lw_tbl) (hN : jOW N np) (hV : Cond.static N.1 ∈ lw_tbl) (hM : M.2.2.2.2 = [])
    (hlen : as.length = np) (hdd : d' < d) (hkc : kc' ≤ kc) (hks : ks' ≤ ks) (hst : (st.map Value.category).sum ≤ 8)
    (hC : jCt w l N d' kc' ks' as σ Qn' Qx')
    (kn : ∀ v t, Qn' v t → jWP w l M d (kc - kc') (ks - ks') Qn Qx (pc + 3) ls (v.toList ++ st) t) (kx : ∀ E t, Qx' E t → Qx E t) : jWP w l M d kc ks Qn Qx pc ls (as.reverse ++ st) σ := by
  intro p e s m args below meth c H LS locs cells slots mc ms hF hR hlo hz hv h1 h2
  refine jx_vrun (av := ((as.map (jvm w)).toArray)) hF hM hlo hz hv h1 h2 hkc hks ?_ kn kx
  obtain ⟨hx, hb, hml, -, -, hown, -, -, hK, hW, -⟩ := hF
  obtain ⟨n1, n2, n3, n4, n5, n6⟩ := hN
  have ew : jcw N = .codeWith N.1 N.2.1 N.2.2.1 N.2.2.2.1 N.2.2.2.2 := if_neg n3
  refine vx_runSX (Ts := []) (As := as.map (jvm w)) (Pc := jPc w as σ) (ws := [jcw N]) (rm := jrm d' kc' ks') (bytes := N.2.1) (maxL := N.2.2.1) (ret := N.2.2.2.1) (hh := N.2.2.2.2) (n := np) ⟨hx, hb, hml, hown, fun _ h => by cases h⟩ hC ⟨⟨rfl, rfl, ?_, ?_, fun c hc a' U hU => ?_, by rw [ew]; exact List.mem_cons_self⟩, jword hW hK n2 rfl args, jword hW hK n1 rfl args, n4, fun sig h => ?_, jword hW hK hl rfl args, jword hW hK hV rfl args⟩ ⟨jPc_blind _ _ _, fun U hU hWm => ⟨rfl, by rw [hU]; exact hR, State.WarmedH.trans hK hWm⟩⟩ rfl (by rw [List.length_map]; exact hlen) hv.1 ?_ ?_ hd ⟨?_, ?_⟩
  · show d' + 6 + 1 ≤ d + 6
    omega
  · show 8 + (N.2.2.1 + 11) + 100 * (d' + 1) ≤ 100 * (d + 1)
    omega
  · rw [List.mem_singleton.mp hc, ew]
    exact jword hW (State.WarmedH.trans hK hU) n2 rfl a'
  · rw [h] at n5
    exact (Option.some.inj n5).symm
  · show (as.reverse ++ st).map (jvm w) = _
    rw [List.map_append, List.map_reverse]
  · exact lv_room (by rw [jcat_sum]; exact hst)
  · show cells + kc' ≤ mc
    omega
  · show slots + ks' ≤ ms
    omega
end
/-- the script lies outside, at 997 -/
def jScr (w : jWD) (Lq : Nat) (xs : Nat → Int32) : Prop := w.2.2.2 997 < jB w ∧ va_X (w.2.2.2 997) Lq xs w.1 w.1.heap
theorem jx_sld {Lq : Nat} {xs : Nat → Int32} {j : Int32} (k : Nat) (hX : jScr w Lq xs) (hd : decode M.2.1 pc = .ok (.iaload, 1)) (hk : j = nI k) (hlt : k < Lq) (hn : Lq < 65536) (kk : jWP w l M d kc ks Qn Qx (pc + 1) ls (.int (xs k) :: st) σ) : jWP w l M d kc ks Qn Qx pc ls (.int j :: .ref 997 :: st) σ := by
  intro p e s m args below meth c H LS locs cells slots mc ms hF hR hl hz hv h1 h2
  have kk := kk p e s m args below meth c H LS locs cells slots mc ms hF hR hl hz hv h1 h2
  obtain ⟨hx, hb, -, -, -, -, -, -, hK, hW, -⟩ := hF
  obtain ⟨hb1, scr, q1, q2, q3, q4, q5⟩ := hX
  obtain ⟨g1, g2⟩ := jin hk hlt hn
  exact W.iald (v := .int (xs k)) hx hb ((hR.2.2.1 _ hb1).trans q1) (State.isArrayOf_alike hK.alike q2) q3 (by rw [q4]; exact g1) (by rw [g2]; exact q5 k hlt) rfl rfl hd kk
theorem jx_slen {Lq : Nat} {xs : Nat → Int32} (hX : jScr w Lq xs) (hd : decode M.2.1 pc = .ok (.arraylength, 1)) (kk : jWP w l M d kc ks Qn Qx (pc + 1) ls (.int (Int32.ofNat Lq) :: st) σ) : jWP w l M d kc ks Qn Qx pc ls (.ref 997 :: st) σ := by
  intro p e s m args below meth c H LS locs cells slots mc ms hF hR hl hz hv h1 h2
  have kk := kk p e s m args below meth c H LS locs cells slots mc ms hF hR hl hz hv h1 h2
  obtain ⟨hx, hb, -, -, -, -, -, -, hK, hW, -⟩ := hF
  obtain ⟨hb1, scr, q1, q2, q3, q4, q5⟩ := hX
  exact W.alen (n := Int32.ofNat Lq) hx hb ((hR.2.2.1 _ hb1).trans q1) (State.isArrayOf_alike hK.alike q2) (by rw [q4] <;> rfl) rfl rfl hd kk
/-- what a good answer leaves in the cell of the out array -/
def jGo (w : jWD) (l : Launch) (M : jMI) (d : Nat) (as : List Value) (σ : jHS) (Q : Int64 → Nat → (Nat → Nat → Int32) → (Nat → Nat → Int64) → (Nat → Nat → Option Nat) → Prop) : Prop := jCt w l M d 1 6 as σ (fun v t => v = some (.int 0) ∧ ∃ r n' J M' R', Q r n' J M' R' ∧ t = (n', shE, J, upL M' 1118 0 r, R')) (fun _ _ => False)
/-- an answer that is refused with the code c -/
def jBa (w : jWD) (l : Launch) (M : jMI) (d : Nat) (as : List Value) (n : Nat) (I : Nat → Nat → Int32) (L : Nat → Nat → Int64) (R : Nat → Nat → Option Nat) (c : Int32) : Prop := jCt w l M d 1 6 as (n, shE, I, L, R) (fun v t => v = some (.int c) ∧ ∃ n', n ≤ n' ∧ t = (n', shE, I, L, R)) (fun _ _ => False)
theorem kNS : Cond.castable eN eN ∈ lw_tbl := jm5 32 rfl
theorem kIA : Cond.castable eI eI ∈ lw_tbl := jm3 174 rfl
theorem kL18 : Cond.classLink RL 18 eN ∈ lw_tbl := jm5 25 rfl
theorem kL13 : Cond.classLink RL 13 eI ∈ lw_tbl := jm3 167 rfl
end JK
