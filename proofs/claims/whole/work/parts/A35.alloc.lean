/-! THE MACHINE LAYER: cells are made; final fields; rows of objects -/
def shN (N a : Nat) : Nat × Nat := if a < N then shE a else (9, 0)
theorem shN_lt {N a : Nat} (h : a < N) : shN N a = shE a := if_pos h
def jdf (ty : FieldType) : Bool := match ty with
  | .float => false
  | .double => false
  | _ => true
theorem asg_self (vm : Vm) (c : ClassId) : vm.assignable c c = true := by
  show vm.assignableAux (255 + 1) c c = true
  rw [Vm.assignableAux, beq_self_eq_true, Bool.true_or]
section JN
variable {w : jWD} {l : Launch} {M : jMI} {d kc ks : Nat} {Qn : Option Value → jHS → Prop} {Qx : String → jHS → Prop} {pc : Nat} {ls : List (Nat × Value)} {st : List Value}
variable {n : Nat} {sh : Nat → Nat × Nat} {I : Nat → Nat → Int32} {L : Nat → Nat → Int64} {R : Nat → Nat → Option Nat}
theorem jRel.push {H H1 : Heap} (hR : jRel w (n, shN n, I, L, R) H) (hz : H1.size = H.size + 1) (ho : ∀ q : Nat, q < H.size → H1[q]? = H[q]?) (h0 : ∀ ci, shE n = (0, ci) → jobj w (n + 1, shN (n + 1), I, L, R) H1 n ci) (h1 : ∀ t m : Nat, shE n = (t, m) → 1 ≤ t → t ≤ 6 → jarr w (n + 1, shN (n + 1), I, L, R) H1 n t m) : jRel w (n + 1, shN (n + 1), I, L, R) H1 := by
  obtain ⟨r1, r2, r3, r4, r5⟩ := hR
  have r1 : 1000 ≤ n := r1
  have r2 : H.size = jB w + (n - 1000) := r2
  have old : ∀ a, a ≠ n → shN (n + 1) a = shN n a := fun a ha => by
    unfold shN
    by_cases z : a < n
    · rw [if_pos z, if_pos (by omega)]
    · rw [if_neg z, if_neg (by omega)]
  refine ⟨by show 1000 ≤ n + 1; omega, by show H1.size = jB w + (n + 1 - 1000); omega, fun q hq => ?_, fun a ci ha => ?_, fun a t m ha ht1 ht2 => ?_⟩
  · rw [ho q (by omega)]; exact r3 q hq
  · have ha : shN (n + 1) a = (0, ci) := ha
    by_cases z : a = n
    · subst z
      rw [shN_lt (Nat.lt_succ_self a)] at ha
      exact h0 ci ha
    · rw [old a z] at ha
      obtain ⟨c1, c2, r, c3, cell, c4, c5⟩ := r4 a ci ha
      have c2 : a < n := c2
      refine ⟨c1, by show a < n + 1; omega, r, c3, cell, ?_, c5.1, c5.2.1, fun k hk => c5.2.2 k hk⟩
      rw [ho _ (by rw [jphi_ge c1]; omega)]; exact c4
  · have ha : shN (n + 1) a = (t, m) := ha
    by_cases z : a = n
    · subst z
      rw [shN_lt (Nat.lt_succ_self a)] at ha
      exact h1 t m ha ht1 ht2
    · rw [old a z] at ha
      obtain ⟨c1, c2, c3⟩ := r5 a t m ha ht1 ht2
      have c2 : a < n := c2
      refine ⟨c1, by show a < n + 1; omega, ?_⟩
      rw [ho _ (by rw [jphi_ge c1]; omega)]; exact c3
theorem jx_new {idx ci : Nat} {r : vw_C} (hd : decode M.2.1 pc = .ok (.new idx, 3)) (hk : Cond.classLink M.1.cls idx r.1 ∈ lw_tbl) (hr : vwCl[ci]? = some r) (hcl : jcl ci r) (hit : Cond.instantiable r.1 r.2.2 ∈ lw_tbl) (hii : Cond.initialized r.1 ∈ lw_tbl) (hs : shE n = (0, ci)) (hdf : ∀ k, k < r.2.2 → jdf (jtys ci k) = true) (hz0 : ∀ k, I n k = 0 ∧ L n k = 0 ∧ R n k = none) (hkc : 1 ≤ kc) (hks : r.2.2 ≤ ks)
    (kk : jWP w l M d (kc - 1) (ks - r.2.2) Qn Qx (pc + 3) ls (.ref n :: st) (n + 1, shN (n + 1), I, L, R)) : jWP w l M d kc ks Qn Qx pc ls st (n, shN n, I, L, R) := by
  intro p e s m args below meth c H LS locs cells slots mc ms hF hR hl hz hv h1 h2
  have kk := fun H' => kk p e s m args below meth c H' LS locs (cells + 1) (slots + r.2.2) mc ms hF
  obtain ⟨hx, hb, -, -, -, hown, -, -, hK, hW, -⟩ := hF
  have hKn := (va_K.moved hK.alike hW.2.1).1 ci _ hr
  have hn : 1000 ≤ n := hR.1
  have hsz : H.size = jB w + (n - 1000) := hR.2.1
  have hph : jphi w n = H.size := by rw [jphi_ge hn, hsz]
  refine W.newcK hx hb hown (jword hW hK hk rfl args) (jword hW hK hit rfl args) (jword hW hK hii rfl args) rfl hd (by show cells + 1 ≤ mc; omega) (by show slots + r.2.2 ≤ ms; omega) hKn.2.1 rfl fun H1 kC hkC e1 z1 o1 => ?_
  have k2 := kk H1 (hR.push z1 o1 (fun ci' h => ?_) (fun t m' h ht1 _ => ?_)) hl (by omega) hv (by omega) (by omega)
  · rw [← hph]
    exact k2
  · rw [hs] at h
    cases h
    refine ⟨hn, Nat.lt_succ_self n, r, hr, ?_⟩
    rw [hph]
    refine (u_born (jtys ci) (jlays hW hK hcl args) (fun _ h => h) hKn hkC e1 hcl.2.1).to (fun k hk => ?_)
    have hd2 := hdf k hk
    obtain ⟨z1, z2, z3⟩ := hz0 k
    show _ = jfv w (jkd (jtys ci k)) (n + 1, shN (n + 1), I, L, R) n k
    generalize jtys ci k = ty at hd2
    cases ty <;> first | (cases hd2; done) | (simp [jkd, jfv, defaultValue, z1, z2, z3, jrf])
  · rw [hs] at h
    cases h
    omega
theorem jx_newarr {t m : Nat} {atype : ArrayType} (hd : decode M.2.1 pc = .ok (.newarray atype, 2)) (hac : Cond.arrayClass (newarray.typeOf atype) ∈ lw_tbl) (hty : newarray.typeOf atype = jaty t) (ht : t = 1 ∨ t = 2 ∨ t = 3 ∨ t = 4) (hs : shE n = (t, m)) (hm : m < 65536) (hz0 : ∀ k, I n k = 0 ∧ L n k = 0 ∧ R n k = none) (hkc : 1 ≤ kc) (hks : m ≤ ks)
    (kk : jWP w l M d (kc - 1) (ks - m) Qn Qx (pc + 2) ls (.ref n :: st) (n + 1, shN (n + 1), I, L, R)) : jWP w l M d kc ks Qn Qx pc ls (.int (nI m) :: st) (n, shN n, I, L, R) := by
  intro p e s m0 args below meth c H LS locs cells slots mc ms hF hR hl hz hv h1 h2
  have kk := fun H' => kk p e s m0 args below meth c H' LS locs (cells + 1) (slots + m) mc ms hF
  obtain ⟨hx, hb, -, -, -, hown, -, -, hK, hW, -⟩ := hF
  have hn : 1000 ≤ n := hR.1
  have hsz : H.size = jB w + (n - 1000) := hR.2.1
  have hph : jphi w n = H.size := by rw [jphi_ge hn, hsz]
  have hfind : s.vm.findClass ("[" ++ (jaty t).toString) = some (w.2.2.1 t) := by rw [hK.alike.findClass]; exact (hW.2.2.1 t (by omega) (by omega)).2.1
  have hnn : ¬ nI m < 0 := fun q => by
    rw [Int32.lt_iff_toInt_lt, nI_toInt (by omega)] at q
    have : (0 : Int32).toInt = 0 := by decide
    omega
  have hby : m * componentBytes (newarray.typeOf atype) ≤ 536870912 := by
    have : componentBytes (newarray.typeOf atype) ≤ 8 := by rw [hty]; rcases ht with rfl | rfl | rfl | rfl <;> decide
    have := Nat.mul_le_mul (show m ≤ 65536 by omega) this
    omega
  refine va_newaK hx hb (jword hW hK hac rfl args) rfl hd rfl hnn (nI_clamp (by omega)) hby (by show cells + 1 ≤ mc; omega) (by show slots + m ≤ ms; omega) rfl fun H1 cA e1 z1 o1 _ hNm => ?_
  rw [hty, hfind] at hNm
  cases hNm
  rw [hty] at e1
  have k2 := kk H1 (hR.push z1 o1 (fun ci' h => ?_) (fun t' m' h ht1 _ => ?_)) hl (by omega) hv (by omega) (by omega)
  · rw [← hph]
    exact k2
  · rw [hs] at h
    cases h
    omega
  · rw [hs] at h
    cases h
    refine ⟨hn, Nat.lt_succ_self n, ?_⟩
    rw [hph, e1]
    congr 2
    funext j
    obtain ⟨y1, y2, y3⟩ := hz0 j
    rcases ht with rfl | rfl | rfl | rfl
    · show Value.int 0 = Value.int (I n j); rw [y1]
    · show Value.int 0 = Value.int (I n j); rw [y1]
    · show Value.int 0 = Value.int (I n j); rw [y1]
    · show Value.long 0 = Value.long (L n j); rw [y2]
theorem jx_anew {idx t m : Nat} {C : String} (hd : decode M.2.1 pc = .ok (.anewarray idx, 3)) (hk : Cond.classLink M.1.cls idx C ∈ lw_tbl) (hao : Cond.arrayOver (.object C) ∈ lw_tbl) (hC : jaty t = .object C) (ht : t = 5 ∨ t = 6) (hs : shE n = (t, m)) (hm : m < 65536) (hz0 : ∀ k, I n k = 0 ∧ L n k = 0 ∧ R n k = none) (hkc : 1 ≤ kc) (hks : m ≤ ks)
    (kk : jWP w l M d (kc - 1) (ks - m) Qn Qx (pc + 3) ls (.ref n :: st) (n + 1, shN (n + 1), I, L, R)) : jWP w l M d kc ks Qn Qx pc ls (.int (nI m) :: st) (n, shN n, I, L, R) := by
  intro p e s m0 args below meth c H LS locs cells slots mc ms hF hR hl hz hv h1 h2
  have kk := fun H' => kk p e s m0 args below meth c H' LS locs (cells + 1) (slots + m) mc ms hF
  obtain ⟨hx, hb, -, -, -, hown, -, -, hK, hW, -⟩ := hF
  have hn : 1000 ≤ n := hR.1
  have hsz : H.size = jB w + (n - 1000) := hR.2.1
  have hph : jphi w n = H.size := by rw [jphi_ge hn, hsz]
  have hfind : s.vm.findClass ("[" ++ (FieldType.object C).toString) = some (w.2.2.1 t) := by rw [hK.alike.findClass, ← hC]; exact (hW.2.2.1 t (by omega) (by omega)).2.1
  have hnn : ¬ nI m < 0 := fun q => by
    rw [Int32.lt_iff_toInt_lt, nI_toInt (by omega)] at q
    have : (0 : Int32).toInt = 0 := by decide
    omega
  have hcl := nI_clamp (n := m) (by omega)
  obtain ⟨args0, hwd⟩ := hW.1
  have hAO : va_AO C s := va_AO.moved hK.alike (va_AO.of (hwd _ hao))
  refine W.anew hx hb hown (jword hW hK hk rfl args) (va_AO.use hAO) rfl hd rfl hnn (by rw [hcl]; omega) (by show cells + 1 ≤ mc; omega) (by rw [hcl]; show slots + m ≤ ms; omega) fun cA kA comp f1 _ _ _ => ?_
  rw [hfind] at f1
  cases f1
  rw [hcl]
  generalize hH1 : H.push ({ cls := w.2.2.1 t, slots := Array.replicate m .null, vm := .none } : Cell) = H1
  have z1 : H1.size = H.size + 1 := by rw [← hH1, Array.size_push]
  have e1 : H1[H.size]? = some (arrV (w.2.2.1 t) m (fun _ => .null)) := by rw [← hH1, Array.getElem?_push_size, ← arrV_new]
  have o1 : ∀ q : Nat, q < H.size → H1[q]? = H[q]? := fun q hq => by rw [← hH1, Array.getElem?_push, if_neg (Nat.ne_of_lt hq)]
  have k2 := kk H1 (hR.push z1 o1 (fun ci' h => ?_) (fun t' m' h ht1 _ => ?_)) hl (by omega) hv (by omega) (by omega)
  · rw [← hph]
    exact k2
  · rw [hs] at h
    cases h
    omega
  · rw [hs] at h
    cases h
    refine ⟨hn, Nat.lt_succ_self n, ?_⟩
    rw [hph, e1]
    congr 2
    funext j
    obtain ⟨y1, y2, y3⟩ := hz0 j
    rcases ht with rfl | rfl
    · show Value.null = jrf w (R n j); rw [y3]; rfl
    · show Value.null = jrf w (R n j); rw [y3]; rfl
theorem jx_aastV {a n0 t v : Nat} {j : Int32} {C : String} (k : Nat) (hd : decode M.2.1 pc = .ok (.aastore, 1)) (hs : sh a = (t, n0)) (ht : t = 5 ∨ t = 6) (hC : jaty t = .object C) (hk : j = nI k) (hlt : k < n0) (hn0 : n0 < 65536)
    (hval : ∀ (s : State) (H : Heap), jWok w l → w.1.WarmedH s.vm → jRel w (n, sh, I, L, R) H → ∃ cv : Cell, H[jphi w v]? = some cv ∧ (∀ q, cv.vm ≠ .statics q) ∧ s.vm.findClass C = some cv.cls)
    (kk : jWP w l M d kc ks Qn Qx (pc + 1) ls st (n, sh, I, L, upR R a k (some v))) : jWP w l M d kc ks Qn Qx pc ls (.ref v :: .int j :: .ref a :: st) (n, sh, I, L, R) := by
  obtain ⟨hin, hcl⟩ := jin hk hlt hn0
  intro p e s m args below meth c H LS locs cells slots mc ms hF hR hl hz hv h1 h2
  have kk := fun H' locs' => kk p e s m args below meth c H' LS locs' cells slots mc ms hF
  obtain ⟨ha, ha2, q1⟩ := hR.2.2.2.2 a t n0 hs (by omega) (by omega)
  obtain ⟨hx, hb, -, -, -, -, -, -, hK, hW, -⟩ := hF
  have h0 : ¬ j < 0 := fun q => hin (Or.inl q)
  have hra := va_RA.moved hK.alike (hW.2.2.1 t (by omega) (by omega)).2.2
  rw [hC] at hra
  obtain ⟨kA, comp, k1, k2, k3, -⟩ := hra
  obtain ⟨kE, hkE, -⟩ := Vm.findClass_spec k3
  obtain ⟨cv, g1, g2, g3⟩ := hval s H hW hK hR
  have hcc : comp = cv.cls := Option.some.inj (k3.symm.trans g3)
  subst hcc
  refine W.aast hx hb q1 (fun q h => by cases h) (fun h => by cases h) k1 k2 rfl hkE ⟨h0, by show _ < (arrV _ _ _).slots.size; rw [arrV_size, hcl]; exact hlt⟩ g1 g2 hkE (asg_self _ _) rfl rfl hd fun H1 e1 e2 e3 => ?_
  refine kk H1 _ (hR.put (σ' := (n, sh, I, L, upR R a k (some v))) ha e2 e3 rfl rfl (fun _ _ _ h => jfv_upR h) (fun _ _ _ h => jav_upR h) (fun ci h => ?_) (fun t' n' h ht1 _ => ?_)) (fun q hq => ?_) (by rw [e2]; exact hz) hv h1 h2
  · have h : sh a = (0, ci) := h
    rw [hs] at h
    cases h
    omega
  · have h : sh a = (t', n') := h
    rw [hs] at h
    cases h
    refine ⟨ha, ha2, ?_⟩
    rw [e1, arrV_store, hcl]
    congr 2
    funext q
    rcases ht with rfl | rfl
    · show updV (fun j => jrf w (R a j)) k (Value.ref (jphi w v)) q = jrf w (upR R a k (some v) a q)
      by_cases hq : q = k
      · subst hq
        simp [updV, upR, jrf]
      · simp [updV, upR, hq]
    · show updV (fun j => jrf w (R a j)) k (Value.ref (jphi w v)) q = jrf w (upR R a k (some v) a q)
      by_cases hq : q = k
      · subst hq
        simp [updV, upR, jrf]
      · simp [updV, upR, hq]
  · rcases List.mem_append.mp hq with h | h
    · exact hl q h
    · rw [List.mem_singleton.mp h]; exact jphi_low ha
theorem jx_aast5 {a n0 v : Nat} {j : Int32} (k : Nat) (hd : decode M.2.1 pc = .ok (.aastore, 1)) (hs : sh a = (5, n0)) (hk : j = nI k) (hlt : k < n0) (hn0 : n0 < 65536) (hsv : sh v = (0, 3)) (kk : jWP w l M d kc ks Qn Qx (pc + 1) ls st (n, sh, I, L, upR R a k (some v))) : jWP w l M d kc ks Qn Qx pc ls (.ref v :: .int j :: .ref a :: st) (n, sh, I, L, R) := by
  refine jx_aastV (t := 5) (C := "EbbIsland$Party") k hd hs (Or.inl rfl) rfl hk hlt hn0 (fun s H hW hK hR => ?_) kk
  obtain ⟨-, -, r, hr, cell, g1, g2, g3, -⟩ := hR.2.2.2.1 v 3 hsv
  have hKn := (va_K.moved hK.alike hW.2.1).1 3 _ hr
  refine ⟨cell, g1, fun q h => (by rw [g3] at h; cases h), ?_⟩
  rw [g2]
  have := hKn.2.1
  cases hr
  exact this
theorem jx_aast6 {a n0 v : Nat} {j : Int32} {q : String × Nat × String × List Int32} (k : Nat) (hd : decode M.2.1 pc = .ok (.aastore, 1)) (hs : sh a = (6, n0)) (hk : j = nI k) (hlt : k < n0) (hn0 : n0 < 65536) (hq : jsr[v]? = some q) (hv : v < 1000) (kk : jWP w l M d kc ks Qn Qx (pc + 1) ls st (n, sh, I, L, upR R a k (some v))) : jWP w l M d kc ks Qn Qx pc ls (.ref v :: .int j :: .ref a :: st) (n, sh, I, L, R) := by
  refine jx_aastV (t := 6) (C := "java/lang/String") k hd hs (Or.inr rfl) rfl hk hlt hn0 (fun s H hW hK hR => ?_) kk
  obtain ⟨cell, g1, g2, g3, g4⟩ := (hW.2.2.2.2.2.1 v q hq).2.1
  have hlt2 : w.2.2.2 v < jB w := Nat.not_le.mp g4
  refine ⟨cell, ?_, fun q h => (by rw [h] at g2; cases g2), ?_⟩
  · have : jphi w v = w.2.2.2 v := by unfold jphi; rw [if_pos hv]
    rw [this, hR.2.2.1 _ hlt2]; exact g1
  · rw [hK.alike.findClass]; exact g3
/-- a final field of its own object is written, in a constructor -/
theorem jx_putF {idx a ci k x : Nat} {r : vw_C} (hd : decode M.2.1 pc = .ok (.putfield idx, 3)) (hr : vwCl[ci]? = some r) (hcl : jcl ci r) (hk : k < r.2.2) (hlink : Cond.fieldLink M.1.cls idx (r.2.1 k).1 (r.2.1 k).2.1 (r.2.1 k).2.2.1 ∈ lw_tbl) (hs : sh a = (0, ci)) (hkd : jkd (jtys ci k) = 2) (hfin : (r.2.1 k).2.2.2 = true) (hdecl : (r.2.1 k).1 = M.1.cls) (hnm : M.1.name = "<init>")
    (kk : jWP w l M d kc ks Qn Qx (pc + 3) ls st (n, sh, I, L, upR R a k (some x))) : jWP w l M d kc ks Qn Qx pc ls (.ref x :: .ref a :: st) (n, sh, I, L, R) := by
  have hty : (∃ c, jtys ci k = .object c) ∨ ∃ t, jtys ci k = .array t := by
    generalize jtys ci k = ty at hkd
    cases ty <;> first | exact Or.inl ⟨_, rfl⟩ | exact Or.inr ⟨_, rfl⟩ | (cases hkd)
  have hnar : narrow (jtys ci k) (jvm w (.ref x)) = jvm w (.ref x) := by rcases hty with ⟨c, h⟩ | ⟨t, h⟩ <;> rw [h] <;> rfl
  have hfit : fits (jtys ci k) (jvm w (.ref x)) = true := by rcases hty with ⟨c, h⟩ | ⟨t, h⟩ <;> rw [h] <;> rfl
  intro p e s m args below meth c H LS locs cells slots mc ms hF hR hl hz hv h1 h2
  have kk := fun H' locs' => kk p e s m args below meth c H' LS locs' cells slots mc ms hF
  obtain ⟨ha, ha2, r', hr', cell, q1, q2, q3, q4⟩ := hR.2.2.2.1 a ci hs
  have hrr : r' = r := Option.some.inj (hr'.symm.trans hr)
  subst hrr
  obtain ⟨hx, hb, -, -, -, hown, hmn, -, hK, hW, -⟩ := hF
  have hK2 := va_K.moved hK.alike hW.2.1
  obtain ⟨hS, hfc, kC, hkC, hkind⟩ := hK2.1 ci _ hr
  obtain ⟨cf, kf, fi, f, hi, hsl⟩ := hS k hk
  have hts := jlays hW hK hcl args
  have hap := va_apart (own := M.1.cls) hts (fun _ h => h) (jtys ci) hcl.2.1 hcl.2.2 hK2 hr
  have hlay := hts _ (u_in_lay hk)
  unfold u_lay at hlay
  rw [if_pos hfin] at hlay
  have hst := (u_facts hfc hkC (u_lays hts (fun _ h => h) hk) hi).1
  have hcf : m.cls = cf := by
    obtain ⟨_, _, c', _, _, _, -, -, hf', -, -, -, hown2, -⟩ := Cond.laysFinal_spec hlay
    have e1 : c' = cf := by have := hi.symm.trans hf'; simp at this; exact this.1.symm
    rw [hdecl] at hown2
    rw [← e1]; exact Option.some.inj (hown.symm.trans hown2)
  have h6 := u_fits hfc hkC hkind (Or.inr hlay) hi (hcl.2.1 k hk) hnar hfit
  refine W.putFinK hx hb hown (jword hW hK hlink rfl args) hi hst hcf (hmn.trans hnm) (by rw [q2]; exact h6) q1 q3 (by rw [hsl]; exact k2_hasslot (q4 k hk)) rfl rfl hd fun H' e1 e2 e3 => ?_
  refine kk H' _ (hR.put (σ' := (n, sh, I, L, upR R a k (some x))) ha e2 e3 rfl rfl (fun _ _ _ h => jfv_upR h) (fun _ _ _ h => jav_upR h) (fun ci' h => ?_) (fun t n' h ht1 _ => ?_)) (fun q hq => ?_) (by rw [e2]; exact hz) hv h1 h2
  · have h : sh a = (0, ci') := h
    rw [hs] at h
    cases h
    refine ⟨ha, ha2, _, hr, _, e1, q2, q3, fun j hj => ?_⟩
    rw [hsl]
    show _ = some (jfv w (jkd (jtys ci j)) (n, sh, I, L, upR R a k (some x)) a j)
    rw [jfv_selfR hkd]
    exact t_set q4 hap hk (jvm w (.ref x)) j hj
  · have h : sh a = (t, n') := h
    rw [hs] at h
    cases h
    omega
  · rcases List.mem_append.mp hq with h | h
    · exact hl q h
    · rw [List.mem_singleton.mp h]; exact jphi_low ha
end JN
