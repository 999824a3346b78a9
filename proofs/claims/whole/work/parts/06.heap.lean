section JH
variable {w : jWD} {l : Launch} {M : jMI} {d kc ks : Nat} {Qn : Option Value → jHS → Prop} {Qx : String → jHS → Prop} {pc : Nat} {ls : List (Nat × Value)} {st : List Value} {σ : jHS}
variable {n : Nat} {sh : Nat → Nat × Nat} {I : Nat → Nat → Int32} {L : Nat → Nat → Int64} {R : Nat → Nat → Option Nat}
def upI (I : Nat → Nat → Int32) (a k : Nat) (v : Int32) : Nat → Nat → Int32 := fun b j => if b = a ∧ j = k then v else I b j
def upL (L : Nat → Nat → Int64) (a k : Nat) (v : Int64) : Nat → Nat → Int64 := fun b j => if b = a ∧ j = k then v else L b j
def upR (R : Nat → Nat → Option Nat) (a k : Nat) (v : Option Nat) : Nat → Nat → Option Nat := fun b j => if b = a ∧ j = k then v else R b j
theorem jword {s : State} (hW : jWok w l) (hK : w.1.WarmedH s.vm) {c : Cond} (hc : c ∈ lw_tbl) (hg : goodWord c = true) (args : Array Value) : c.before args s = true := by
  obtain ⟨args0, h⟩ := hW.1
  exact word_at hK (good_of_word hg) (h c hc)
theorem jlays {s : State} (hW : jWok w l) (hK : w.1.WarmedH s.vm) {ci : Nat} {r : vw_C} (hcl : jcl ci r) (args : Array Value) : ∀ c ∈ u_ws r.1 r.2.1 r.2.2, c.before args s = true := by
  intro c hc
  refine jword hW hK (hcl.1 c hc) ?_ args
  obtain ⟨k, -, rfl⟩ := List.mem_map.mp hc
  unfold u_lay
  split <;> rfl
/-- a field's link: entry idx of own's pool names field k of class ci -/
def jFL (own : String) (idx ci k : Nat) : Prop := ∃ r : vw_C, vwCl[ci]? = some r ∧ k < r.2.2 ∧ jcl ci r ∧ (Cond.fieldLink own idx (r.2.1 k).1 (r.2.1 k).2.1 (r.2.1 k).2.2.1 ∈ lw_tbl ∨ ∃ host : String, Cond.fieldLinkNest own idx (r.2.1 k).1 (r.2.1 k).2.1 (r.2.1 k).2.2.1 host ∈ lw_tbl)
theorem jx_getV {idx a ci k : Nat} (hd : decode M.2.1 pc = .ok (.getfield idx, 3)) (hF0 : jFL M.1.cls idx ci k) (hs : σ.2.1 a = (0, ci))
    (kk : ∀ (p : Program) (e : Env) (s : State) (m : MethodId) (args : Array Value) (below : List Frame) (meth : Method) (c : Code) (H : Heap) (LS : Array Slot) (locs : List Loc) (cells slots mc ms : Nat),
    jFx w l M p s m meth c → jRel w σ H → (∀ q ∈ locs, jB w ≤ q.base) → s.heap.size ≤ H.size → lv_has LS M.2.2.1 (jlm w ls) → cells + kc ≤ mc → slots + ks ≤ ms →
    W p l e (jrm d mc ms) s m args below meth c H locs cells slots (vx_MQ below (jQC w Qn) (jXC w Qx) args s mc ms (jfree w)) (F0 m (pc + 3) LS (jfv w (jkd (jtys ci k)) σ a k :: st.map (jvm w)))) : jWP w l M d kc ks Qn Qx pc ls (.ref a :: st) σ := by
  intro p e s m args below meth c H LS locs cells slots mc ms hF hR hl hz hv h1 h2
  have kk := kk p e s m args below meth c H LS locs cells slots mc ms hF hR hl hz hv h1 h2
  obtain ⟨r, hr, hk, hcl, hlink⟩ := hF0
  obtain ⟨-, -, r', hr', cell, q1, q2, q3, q4⟩ := hR.2.2.2.1 a ci hs
  have hrr : r' = r := Option.some.inj (hr'.symm.trans hr)
  subst hrr
  obtain ⟨hx, hb, -, -, -, hown, -, -, hK, hW, -⟩ := hF
  obtain ⟨hS, hfc, kC, hkC, hkind⟩ := (va_K.moved hK.alike hW.2.1).1 ci _ hr
  obtain ⟨cf, kf, fi, f, hi, hsl⟩ := hS k hk
  have hst := (u_facts hfc hkC (u_lays (jlays hW hK hcl args) (fun _ h => h) hk) hi).1
  have hv2 : cell.slots[f.slot]? = some (jfv w (jkd (jtys ci k)) σ a k) := by rw [hsl]; exact q4 k hk
  rcases hlink with h | ⟨host, h⟩
  · exact W.getf hx hb hown (jword hW hK h rfl args) hi hst q1 (by rw [q3]; exact fun h => by cases h) hv2 rfl rfl hd kk
  · obtain ⟨args0, h0⟩ := hW.1
    exact va_Wgetf hx hb hown (va_Nw.use rfl (va_Nw.warmF hK (va_Nw.of rfl (h0 _ h)))) hi hst q1 (by rw [q3]; exact fun h => by cases h) hv2 rfl rfl hd kk
theorem jx_getI {idx a ci k : Nat} (hd : decode M.2.1 pc = .ok (.getfield idx, 3)) (hF0 : jFL M.1.cls idx ci k) (hs : sh a = (0, ci)) (hk : jkd (jtys ci k) = 0)
    (kk : jWP w l M d kc ks Qn Qx (pc + 3) ls (.int (I a k) :: st) (n, sh, I, L, R)) : jWP w l M d kc ks Qn Qx pc ls (.ref a :: st) (n, sh, I, L, R) := by
  refine jx_getV hd hF0 hs ?_
  rw [hk]
  exact kk
theorem jx_getL {idx a ci k : Nat} (hd : decode M.2.1 pc = .ok (.getfield idx, 3)) (hF0 : jFL M.1.cls idx ci k) (hs : sh a = (0, ci)) (hk : jkd (jtys ci k) = 1)
    (kk : jWP w l M d kc ks Qn Qx (pc + 3) ls (.long (L a k) :: st) (n, sh, I, L, R)) : jWP w l M d kc ks Qn Qx pc ls (.ref a :: st) (n, sh, I, L, R) := by
  refine jx_getV hd hF0 hs ?_
  rw [hk]
  exact kk
theorem jx_getR {idx a ci k x : Nat} (hd : decode M.2.1 pc = .ok (.getfield idx, 3)) (hF0 : jFL M.1.cls idx ci k) (hs : sh a = (0, ci)) (hk : jkd (jtys ci k) = 2) (hx : R a k = some x)
    (kk : jWP w l M d kc ks Qn Qx (pc + 3) ls (.ref x :: st) (n, sh, I, L, R)) : jWP w l M d kc ks Qn Qx pc ls (.ref a :: st) (n, sh, I, L, R) := by
  refine jx_getV hd hF0 hs ?_
  rw [hk]
  have e : jfv w 2 (n, sh, I, L, R) a k = .ref (jphi w x) := by show jrf w (R a k) = _; rw [hx]; rfl
  rw [e]
  exact kk
theorem jphi_ge {x : Nat} (h : 1000 ≤ x) : jphi w x = jB w + (x - 1000) := by unfold jphi; rw [if_neg (by omega)]
theorem jphi_inj {x y : Nat} (hx : 1000 ≤ x) (hy : 1000 ≤ y) (h : jphi w x = jphi w y) : x = y := by
  rw [jphi_ge hx, jphi_ge hy] at h
  omega
theorem jphi_low {x : Nat} (h : 1000 ≤ x) : jB w ≤ jphi w x := by rw [jphi_ge h]; omega
/-- one cell a is written: the picture σ' agrees with σ but at a -/
theorem jRel.put {σ σ' : jHS} {H H' : Heap} {a : Nat} (hR : jRel w σ H) (ha : 1000 ≤ a) (hz : H'.size = H.size) (ho : ∀ q : Nat, q ≠ jphi w a → H'[q]? = H[q]?) (hn : σ'.1 = σ.1) (hsh : σ'.2.1 = σ.2.1)
    (hf : ∀ b k kd : Nat, b ≠ a → jfv w kd σ' b k = jfv w kd σ b k) (hv : ∀ b k t : Nat, b ≠ a → jav w t σ' b k = jav w t σ b k)
    (h0 : ∀ ci, σ.2.1 a = (0, ci) → jobj w σ' H' a ci) (h1 : ∀ t n : Nat, σ.2.1 a = (t, n) → 1 ≤ t → t ≤ 6 → jarr w σ' H' a t n) : jRel w σ' H' := by
  obtain ⟨r1, r2, r3, r4, r5⟩ := hR
  have hlow := jphi_low (w := w) ha
  refine ⟨by rw [hn]; exact r1, by rw [hz, hn]; exact r2, fun q hq => ?_, fun b ci hb => ?_, fun b t n hb ht1 ht2 => ?_⟩
  · rw [ho q (by omega)]; exact r3 q hq
  · rw [hsh] at hb
    by_cases hba : b = a
    · subst hba; exact h0 ci hb
    · obtain ⟨c1, c2, r, c3, cell, c4, c5⟩ := r4 b ci hb
      refine ⟨c1, by rw [hn]; exact c2, r, c3, cell, ?_, c5.1, c5.2.1, fun k hk => ?_⟩
      · rw [ho _ (fun h => hba (jphi_inj c1 ha h))]; exact c4
      · show _ = some (jfv w _ σ' b k)
        rw [hf b k _ hba]; exact c5.2.2 k hk
  · rw [hsh] at hb
    by_cases hba : b = a
    · subst hba; exact h1 t n hb ht1 ht2
    · obtain ⟨c1, c2, c3⟩ := r5 b t n hb ht1 ht2
      refine ⟨c1, by rw [hn]; exact c2, ?_⟩
      rw [ho _ (fun h => hba (jphi_inj c1 ha h)), c3]
      have : jav w t σ' b = jav w t σ b := funext fun k => hv b k t hba
      rw [this]
/-- a field that isn't final is written -/
theorem jx_putV {σ' : jHS} {idx a ci k : Nat} {v : Value} (hd : decode M.2.1 pc = .ok (.putfield idx, 3)) (hF0 : jFL M.1.cls idx ci k) (hs : σ.2.1 a = (0, ci))
    (hfin : ∀ r : vw_C, vwCl[ci]? = some r → (r.2.1 k).2.2.2 = false) (hnar : narrow (jtys ci k) (jvm w v) = jvm w v) (hfit : fits (jtys ci k) (jvm w v) = true)
    (hn : σ'.1 = σ.1) (hsh : σ'.2.1 = σ.2.1) (hf : ∀ b j kd : Nat, b ≠ a → jfv w kd σ' b j = jfv w kd σ b j) (hav : ∀ b j t : Nat, b ≠ a → jav w t σ' b j = jav w t σ b j)
    (hself : ∀ j : Nat, jfv w (jkd (jtys ci j)) σ' a j = updV (fun j => jfv w (jkd (jtys ci j)) σ a j) k (jvm w v) j)
    (kk : jWP w l M d kc ks Qn Qx (pc + 3) ls st σ') : jWP w l M d kc ks Qn Qx pc ls (v :: .ref a :: st) σ := by
  intro p e s m args below meth c H LS locs cells slots mc ms hF hR hl hz hv h1 h2
  have kk := fun H' locs' => kk p e s m args below meth c H' LS locs' cells slots mc ms hF
  obtain ⟨r, hr, hk, hcl, hlink⟩ := hF0
  obtain ⟨ha, ha2, r', hr', cell, q1, q2, q3, q4⟩ := hR.2.2.2.1 a ci hs
  have hrr : r' = r := Option.some.inj (hr'.symm.trans hr)
  subst hrr
  obtain ⟨hx, hb, -, -, -, hown, -, -, hK, hW, -⟩ := hF
  have hK2 := va_K.moved hK.alike hW.2.1
  obtain ⟨hS, hfc, kC, hkC, hkind⟩ := hK2.1 ci _ hr
  obtain ⟨cf, kf, fi, f, hi, hsl⟩ := hS k hk
  have hts := jlays hW hK hcl args
  have hap := va_apart (own := M.1.cls) hts (fun _ h => h) (jtys ci) hcl.2.1 hcl.2.2 hK2 hr
  have hlay := hts _ (u_in_lay hk)
  unfold u_lay at hlay
  rw [if_neg (by rw [hfin _ hr]; decide)] at hlay
  have hst := (u_facts hfc hkC (u_lays hts (fun _ h => h) hk) hi).1
  have h6 := u_store hfc hkC hkind hlay hi (hcl.2.1 k hk) hnar hfit
  have fin : ∀ H' : Heap, H'[jphi w a]? = some (cell.setSlot f.slot (jvm w v)) → H'.size = H.size → (∀ q, q ≠ jphi w a → H'[q]? = H[q]?) → W p l e (jrm d mc ms) s m args below meth c H' (locs ++ [⟨jphi w a, f.slot⟩]) cells slots (vx_MQ below (jQC w Qn) (jXC w Qx) args s mc ms (jfree w)) (F0 m (pc + 3) LS (st.map (jvm w))) := by
    intro H' e1 e2 e3
    refine kk H' _ (hR.put ha e2 e3 hn hsh hf hav (fun ci' h => ?_) (fun t n' h ht1 _ => ?_)) (fun q hq => ?_) (by rw [e2]; exact hz) hv h1 h2
    · rw [hs] at h
      cases h
      refine ⟨ha, by rw [hn]; exact ha2, _, hr, _, e1, q2, q3, fun j hj => ?_⟩
      rw [hsl]
      show _ = some (jfv w _ σ' a j)
      rw [hself j]
      exact t_set q4 hap hk (jvm w v) j hj
    · rw [hs] at h
      cases h
      omega
    · rcases List.mem_append.mp hq with h | h
      · exact hl q h
      · rw [List.mem_singleton.mp h]; exact jphi_low ha
  rcases hlink with h | ⟨host, h⟩
  · exact W.putK hx hb (f := f) ⟨hown, jword hW hK h rfl args, ⟨_, _, _, hi⟩, hst⟩ (by rw [q2]; exact h6) q1 q3 (by rw [hsl]; exact k2_hasslot (q4 k hk)) rfl rfl hd fin
  · obtain ⟨args0, h0⟩ := hW.1
    exact va_WputK hx hb (f := f) hown (va_Nw.use rfl (va_Nw.warmF hK (va_Nw.of rfl (h0 _ h)))) hi hst (by rw [q2]; exact h6) q1 q3 (by rw [hsl]; exact k2_hasslot (q4 k hk)) rfl rfl hd fin
theorem jfv_upI {b a j k kd : Nat} {v : Int32} (h : b ≠ a) : jfv w kd (n, sh, upI I a k v, L, R) b j = jfv w kd (n, sh, I, L, R) b j := by
  unfold jfv
  split <;> simp [upI, h]
theorem jav_upI {b a j k t : Nat} {v : Int32} (h : b ≠ a) : jav w t (n, sh, upI I a k v, L, R) b j = jav w t (n, sh, I, L, R) b j := by
  unfold jav
  split <;> simp [upI, h]
theorem jfv_upL {b a j k kd : Nat} {v : Int64} (h : b ≠ a) : jfv w kd (n, sh, I, upL L a k v, R) b j = jfv w kd (n, sh, I, L, R) b j := by
  unfold jfv
  split <;> simp [upL, h]
theorem jav_upL {b a j k t : Nat} {v : Int64} (h : b ≠ a) : jav w t (n, sh, I, upL L a k v, R) b j = jav w t (n, sh, I, L, R) b j := by
  unfold jav
  split <;> simp [upL, h]
theorem jfv_upR {b a j k kd : Nat} {v : Option Nat} (h : b ≠ a) : jfv w kd (n, sh, I, L, upR R a k v) b j = jfv w kd (n, sh, I, L, R) b j := by
  unfold jfv
  split <;> simp [upR, h]
theorem jav_upR {b a j k t : Nat} {v : Option Nat} (h : b ≠ a) : jav w t (n, sh, I, L, upR R a k v) b j = jav w t (n, sh, I, L, R) b j := by
  unfold jav
  split <;> simp [upR, h]
theorem jfv_selfI {a j k ci : Nat} {v : Int32} (hk : jkd (jtys ci k) = 0) : jfv w (jkd (jtys ci j)) (n, sh, upI I a k v, L, R) a j = updV (fun j => jfv w (jkd (jtys ci j)) (n, sh, I, L, R) a j) k (jvm w (.int v)) j := by
  unfold updV
  by_cases h : j = k
  · subst h
    rw [if_pos rfl, hk]
    simp [jfv, upI, jvm]
  · rw [if_neg h]
    show jfv w _ _ a j = jfv w _ _ a j
    generalize jkd (jtys ci j) = kd
    unfold jfv
    split <;> simp [upI, h]
theorem jfv_selfL {a j k ci : Nat} {v : Int64} (hk : jkd (jtys ci k) = 1) : jfv w (jkd (jtys ci j)) (n, sh, I, upL L a k v, R) a j = updV (fun j => jfv w (jkd (jtys ci j)) (n, sh, I, L, R) a j) k (jvm w (.long v)) j := by
  unfold updV
  by_cases h : j = k
  · subst h
    rw [if_pos rfl, hk]
    simp [jfv, upL, jvm]
  · rw [if_neg h]
    show jfv w _ _ a j = jfv w _ _ a j
    generalize jkd (jtys ci j) = kd
    unfold jfv
    split <;> simp [upL, h]
theorem jfv_selfR {a j k ci x : Nat} (hk : jkd (jtys ci k) = 2) : jfv w (jkd (jtys ci j)) (n, sh, I, L, upR R a k (some x)) a j = updV (fun j => jfv w (jkd (jtys ci j)) (n, sh, I, L, R) a j) k (jvm w (.ref x)) j := by
  unfold updV
  by_cases h : j = k
  · subst h
    rw [if_pos rfl, hk]
    simp [jfv, upR, jvm, jrf]
  · rw [if_neg h]
    show jfv w _ _ a j = jfv w _ _ a j
    generalize jkd (jtys ci j) = kd
    unfold jfv
    split <;> simp [upR, h]
theorem jx_putI {idx a ci k : Nat} {v : Int32} (hd : decode M.2.1 pc = .ok (.putfield idx, 3)) (hF0 : jFL M.1.cls idx ci k) (hs : sh a = (0, ci)) (hty : jtys ci k = .int) (hfin : ∀ r : vw_C, vwCl[ci]? = some r → (r.2.1 k).2.2.2 = false)
    (kk : jWP w l M d kc ks Qn Qx (pc + 3) ls st (n, sh, upI I a k v, L, R)) : jWP w l M d kc ks Qn Qx pc ls (.int v :: .ref a :: st) (n, sh, I, L, R) :=
  jx_putV (σ' := (n, sh, upI I a k v, L, R)) hd hF0 hs hfin (by rw [hty]; rfl) (by rw [hty]; rfl) rfl rfl (fun _ _ _ h => jfv_upI h) (fun _ _ _ h => jav_upI h) (fun _ => jfv_selfI (by rw [hty]; rfl)) kk
theorem jx_putZ {idx a ci k : Nat} {v : Int32} (hd : decode M.2.1 pc = .ok (.putfield idx, 3)) (hF0 : jFL M.1.cls idx ci k) (hs : sh a = (0, ci)) (hty : jtys ci k = .boolean) (hfin : ∀ r : vw_C, vwCl[ci]? = some r → (r.2.1 k).2.2.2 = false) (hv : v = 0 ∨ v = 1)
    (kk : jWP w l M d kc ks Qn Qx (pc + 3) ls st (n, sh, upI I a k v, L, R)) : jWP w l M d kc ks Qn Qx pc ls (.int v :: .ref a :: st) (n, sh, I, L, R) :=
  jx_putV (σ' := (n, sh, upI I a k v, L, R)) hd hF0 hs hfin (by rw [hty]; rcases hv with rfl | rfl <;> rfl) (by rw [hty]; rcases hv with rfl | rfl <;> rfl) rfl rfl (fun _ _ _ h => jfv_upI h) (fun _ _ _ h => jav_upI h) (fun _ => jfv_selfI (by rw [hty]; rfl)) kk
theorem jx_putL {idx a ci k : Nat} {v : Int64} (hd : decode M.2.1 pc = .ok (.putfield idx, 3)) (hF0 : jFL M.1.cls idx ci k) (hs : sh a = (0, ci)) (hty : jtys ci k = .long) (hfin : ∀ r : vw_C, vwCl[ci]? = some r → (r.2.1 k).2.2.2 = false)
    (kk : jWP w l M d kc ks Qn Qx (pc + 3) ls st (n, sh, I, upL L a k v, R)) : jWP w l M d kc ks Qn Qx pc ls (.long v :: .ref a :: st) (n, sh, I, L, R) :=
  jx_putV (σ' := (n, sh, I, upL L a k v, R)) hd hF0 hs hfin (by rw [hty]; rfl) (by rw [hty]; rfl) rfl rfl (fun _ _ _ h => jfv_upL h) (fun _ _ _ h => jav_upL h) (fun _ => jfv_selfL (by rw [hty]; rfl)) kk
theorem jx_putR {idx a ci k x : Nat} (hd : decode M.2.1 pc = .ok (.putfield idx, 3)) (hF0 : jFL M.1.cls idx ci k) (hs : sh a = (0, ci)) (hty : ∃ c, jtys ci k = .object c) (hfin : ∀ r : vw_C, vwCl[ci]? = some r → (r.2.1 k).2.2.2 = false)
    (kk : jWP w l M d kc ks Qn Qx (pc + 3) ls st (n, sh, I, L, upR R a k (some x))) : jWP w l M d kc ks Qn Qx pc ls (.ref x :: .ref a :: st) (n, sh, I, L, R) := by
  obtain ⟨c, hty⟩ := hty
  exact jx_putV (σ' := (n, sh, I, L, upR R a k (some x))) hd hF0 hs hfin (by rw [hty]; rfl) (by rw [hty]; rfl) rfl rfl (fun _ _ _ h => jfv_upR h) (fun _ _ _ h => jav_upR h) (fun _ => jfv_selfR (by rw [hty]; rfl)) kk
theorem jx_iald {a n0 : Nat} {j : Int32} (hd : decode M.2.1 pc = .ok (.iaload, 1)) (hs : sh a = (1, n0)) (hj : vp_in j n0) (kk : jWP w l M d kc ks Qn Qx (pc + 1) ls (.int (I a j.toNatClampNeg) :: st) (n, sh, I, L, R)) : jWP w l M d kc ks Qn Qx pc ls (.int j :: .ref a :: st) (n, sh, I, L, R) := by
  intro p e s m args below meth c H LS locs cells slots mc ms hF hR hl hz hv h1 h2
  have kk := kk p e s m args below meth c H LS locs cells slots mc ms hF hR hl hz hv h1 h2
  obtain ⟨-, -, q1⟩ := hR.2.2.2.2 a 1 n0 hs (by decide) (by decide)
  obtain ⟨hx, hb, -, -, -, -, -, -, hK, hW, -⟩ := hF
  have hlt : j.toNatClampNeg < n0 := Nat.not_le.mp fun q => hj (Or.inr q)
  exact W.iald (v := jav w 1 (n, sh, I, L, R) a j.toNatClampNeg) hx hb q1 (arrOfT_moved hK.alike (hW.2.2.1 1 (by decide) (by decide)).1 n0 _) (fun q => by cases q) (by show ¬ (j < 0 ∨ (arrV _ _ _).slots.size ≤ _); rw [arrV_size]; exact hj) (by show (arrV _ _ _).slots[_]? = _; rw [arrV_read _ _ hlt]) rfl rfl hd kk
theorem jx_bald {a n0 : Nat} {j : Int32} (hd : decode M.2.1 pc = .ok (.baload, 1)) (hs : sh a = (2, n0)) (hj : vp_in j n0) (kk : jWP w l M d kc ks Qn Qx (pc + 1) ls (.int (I a j.toNatClampNeg) :: st) (n, sh, I, L, R)) : jWP w l M d kc ks Qn Qx pc ls (.int j :: .ref a :: st) (n, sh, I, L, R) := by
  intro p e s m args below meth c H LS locs cells slots mc ms hF hR hl hz hv h1 h2
  have kk := kk p e s m args below meth c H LS locs cells slots mc ms hF hR hl hz hv h1 h2
  obtain ⟨-, -, q1⟩ := hR.2.2.2.2 a 2 n0 hs (by decide) (by decide)
  obtain ⟨hx, hb, -, -, -, -, -, -, hK, hW, -⟩ := hF
  have hlt : j.toNatClampNeg < n0 := Nat.not_le.mp fun q => hj (Or.inr q)
  exact W.bald (v := jav w 2 (n, sh, I, L, R) a j.toNatClampNeg) hx hb q1 (arrOfT_moved hK.alike (hW.2.2.1 2 (by decide) (by decide)).1 n0 _) (fun q => by cases q) (by show ¬ (j < 0 ∨ (arrV _ _ _).slots.size ≤ _); rw [arrV_size]; exact hj) (by show (arrV _ _ _).slots[_]? = _; rw [arrV_read _ _ hlt]) rfl rfl hd kk
theorem jx_zald {a n0 : Nat} {j : Int32} (hd : decode M.2.1 pc = .ok (.baload, 1)) (hs : sh a = (3, n0)) (hj : vp_in j n0) (kk : jWP w l M d kc ks Qn Qx (pc + 1) ls (.int (I a j.toNatClampNeg) :: st) (n, sh, I, L, R)) : jWP w l M d kc ks Qn Qx pc ls (.int j :: .ref a :: st) (n, sh, I, L, R) := by
  intro p e s m args below meth c H LS locs cells slots mc ms hF hR hl hz hv h1 h2
  have kk := kk p e s m args below meth c H LS locs cells slots mc ms hF hR hl hz hv h1 h2
  obtain ⟨-, -, q1⟩ := hR.2.2.2.2 a 3 n0 hs (by decide) (by decide)
  obtain ⟨hx, hb, -, -, -, -, -, -, hK, hW, -⟩ := hF
  have hlt : j.toNatClampNeg < n0 := Nat.not_le.mp fun q => hj (Or.inr q)
  exact W.zald (v := jav w 3 (n, sh, I, L, R) a j.toNatClampNeg) hx hb q1 (arrOfT_moved hK.alike (hW.2.2.1 3 (by decide) (by decide)).1 n0 _) (fun q => by cases q) (by show ¬ (j < 0 ∨ (arrV _ _ _).slots.size ≤ _); rw [arrV_size]; exact hj) (by show (arrV _ _ _).slots[_]? = _; rw [arrV_read _ _ hlt]) rfl rfl hd kk
theorem jx_lald {a n0 : Nat} {j : Int32} (hd : decode M.2.1 pc = .ok (.laload, 1)) (hs : sh a = (4, n0)) (hj : vp_in j n0) (kk : jWP w l M d kc ks Qn Qx (pc + 1) ls (.long (L a j.toNatClampNeg) :: st) (n, sh, I, L, R)) : jWP w l M d kc ks Qn Qx pc ls (.int j :: .ref a :: st) (n, sh, I, L, R) := by
  intro p e s m args below meth c H LS locs cells slots mc ms hF hR hl hz hv h1 h2
  have kk := kk p e s m args below meth c H LS locs cells slots mc ms hF hR hl hz hv h1 h2
  obtain ⟨-, -, q1⟩ := hR.2.2.2.2 a 4 n0 hs (by decide) (by decide)
  obtain ⟨hx, hb, -, -, -, -, -, -, hK, hW, -⟩ := hF
  have hlt : j.toNatClampNeg < n0 := Nat.not_le.mp fun q => hj (Or.inr q)
  exact W.lald (v := jav w 4 (n, sh, I, L, R) a j.toNatClampNeg) hx hb q1 (arrOfT_moved hK.alike (hW.2.2.1 4 (by decide) (by decide)).1 n0 _) (fun q => by cases q) (by show ¬ (j < 0 ∨ (arrV _ _ _).slots.size ≤ _); rw [arrV_size]; exact hj) (by show (arrV _ _ _).slots[_]? = _; rw [arrV_read _ _ hlt]) rfl rfl hd kk
theorem jx_aald5 {a n0 x : Nat} {j : Int32} (hd : decode M.2.1 pc = .ok (.aaload, 1)) (hs : sh a = (5, n0)) (hj : vp_in j n0) (hr : R a j.toNatClampNeg = some x) (kk : jWP w l M d kc ks Qn Qx (pc + 1) ls (.ref x :: st) (n, sh, I, L, R)) : jWP w l M d kc ks Qn Qx pc ls (.int j :: .ref a :: st) (n, sh, I, L, R) := by
  intro p e s m args below meth c H LS locs cells slots mc ms hF hR hl hz hv h1 h2
  have kk := kk p e s m args below meth c H LS locs cells slots mc ms hF hR hl hz hv h1 h2
  obtain ⟨-, -, q1⟩ := hR.2.2.2.2 a 5 n0 hs (by decide) (by decide)
  obtain ⟨hx, hb, -, -, -, -, -, -, hK, hW, -⟩ := hF
  have hlt : j.toNatClampNeg < n0 := Nat.not_le.mp fun q => hj (Or.inr q)
  exact W.aald (v := .ref (jphi w x)) (ty := jaty 5) hx hb q1 (arrOfT_moved hK.alike (hW.2.2.1 5 (by decide) (by decide)).1 n0 _) rfl (fun q => by cases q) (by show ¬ (j < 0 ∨ (arrV _ _ _).slots.size ≤ _); rw [arrV_size]; exact hj) (by show (arrV _ _ _).slots[_]? = _; rw [arrV_read _ _ hlt]; show some (jrf w (R a _)) = _; rw [hr]; rfl) rfl rfl hd kk
theorem jx_aald6 {a n0 x : Nat} {j : Int32} (hd : decode M.2.1 pc = .ok (.aaload, 1)) (hs : sh a = (6, n0)) (hj : vp_in j n0) (hr : R a j.toNatClampNeg = some x) (kk : jWP w l M d kc ks Qn Qx (pc + 1) ls (.ref x :: st) (n, sh, I, L, R)) : jWP w l M d kc ks Qn Qx pc ls (.int j :: .ref a :: st) (n, sh, I, L, R) := by
  intro p e s m args below meth c H LS locs cells slots mc ms hF hR hl hz hv h1 h2
  have kk := kk p e s m args below meth c H LS locs cells slots mc ms hF hR hl hz hv h1 h2
  obtain ⟨-, -, q1⟩ := hR.2.2.2.2 a 6 n0 hs (by decide) (by decide)
  obtain ⟨hx, hb, -, -, -, -, -, -, hK, hW, -⟩ := hF
  have hlt : j.toNatClampNeg < n0 := Nat.not_le.mp fun q => hj (Or.inr q)
  exact W.aald (v := .ref (jphi w x)) (ty := jaty 6) hx hb q1 (arrOfT_moved hK.alike (hW.2.2.1 6 (by decide) (by decide)).1 n0 _) rfl (fun q => by cases q) (by show ¬ (j < 0 ∨ (arrV _ _ _).slots.size ≤ _); rw [arrV_size]; exact hj) (by show (arrV _ _ _).slots[_]? = _; rw [arrV_read _ _ hlt]; show some (jrf w (R a _)) = _; rw [hr]; rfl) rfl rfl hd kk
theorem jx_iast {a n0 : Nat} {j : Int32} {x : Int32} (hd : decode M.2.1 pc = .ok (.iastore, 1)) (hs : sh a = (1, n0)) (hj : vp_in j n0) (kk : jWP w l M d kc ks Qn Qx (pc + 1) ls st (n, sh, upI I a j.toNatClampNeg (x), L, R)) : jWP w l M d kc ks Qn Qx pc ls (.int x :: .int j :: .ref a :: st) (n, sh, I, L, R) := by
  intro p e s m args below meth c H LS locs cells slots mc ms hF hR hl hz hv h1 h2
  have kk := fun H' locs' => kk p e s m args below meth c H' LS locs' cells slots mc ms hF
  obtain ⟨ha, ha2, q1⟩ := hR.2.2.2.2 a 1 n0 hs (by decide) (by decide)
  obtain ⟨hx, hb, -, -, -, -, -, -, hK, hW, -⟩ := hF
  refine W.iast hx hb q1 (arrOfT_moved hK.alike (hW.2.2.1 1 (by decide) (by decide)).1 n0 _) (fun q => by cases q) (by show ¬ (j < 0 ∨ (arrV _ _ _).slots.size ≤ _); rw [arrV_size]; exact hj) rfl rfl hd fun H1 e1 e2 e3 => ?_
  refine kk H1 _ (hR.put (σ' := (n, sh, upI I a j.toNatClampNeg (x), L, R)) ha e2 e3 rfl rfl (fun _ _ _ h => jfv_upI h) (fun _ _ _ h => jav_upI h) (fun ci h => ?_) (fun t n' h ht1 _ => ?_)) (fun q hq => ?_) (by rw [e2]; exact hz) hv h1 h2
  · have h : sh a = (0, ci) := h
    rw [hs] at h
    cases h
  · have h : sh a = (t, n') := h
    rw [hs] at h
    cases h
    refine ⟨ha, ha2, ?_⟩
    rw [e1, arrV_store]
    congr 2
    funext q
    by_cases hq : q = j.toNatClampNeg
    · subst hq
      simp [updV, jav, upI]
    · simp [updV, jav, upI, hq]
  · rcases List.mem_append.mp hq with h | h
    · exact hl q h
    · rw [List.mem_singleton.mp h]; exact jphi_low ha
theorem jx_bast {a n0 : Nat} {j : Int32} {x : Int32} (hd : decode M.2.1 pc = .ok (.bastore, 1)) (hs : sh a = (2, n0)) (hj : vp_in j n0) (kk : jWP w l M d kc ks Qn Qx (pc + 1) ls st (n, sh, upI I a j.toNatClampNeg (x.toInt8.toInt32), L, R)) : jWP w l M d kc ks Qn Qx pc ls (.int x :: .int j :: .ref a :: st) (n, sh, I, L, R) := by
  intro p e s m args below meth c H LS locs cells slots mc ms hF hR hl hz hv h1 h2
  have kk := fun H' locs' => kk p e s m args below meth c H' LS locs' cells slots mc ms hF
  obtain ⟨ha, ha2, q1⟩ := hR.2.2.2.2 a 2 n0 hs (by decide) (by decide)
  obtain ⟨hx, hb, -, -, -, -, -, -, hK, hW, -⟩ := hF
  refine W.bast hx hb q1 (arrOfT_moved hK.alike (hW.2.2.1 2 (by decide) (by decide)).1 n0 _) (fun q => by cases q) (by show ¬ (j < 0 ∨ (arrV _ _ _).slots.size ≤ _); rw [arrV_size]; exact hj) rfl rfl hd fun H1 e1 e2 e3 => ?_
  refine kk H1 _ (hR.put (σ' := (n, sh, upI I a j.toNatClampNeg (x.toInt8.toInt32), L, R)) ha e2 e3 rfl rfl (fun _ _ _ h => jfv_upI h) (fun _ _ _ h => jav_upI h) (fun ci h => ?_) (fun t n' h ht1 _ => ?_)) (fun q hq => ?_) (by rw [e2]; exact hz) hv h1 h2
  · have h : sh a = (0, ci) := h
    rw [hs] at h
    cases h
  · have h : sh a = (t, n') := h
    rw [hs] at h
    cases h
    refine ⟨ha, ha2, ?_⟩
    rw [e1, arrV_store]
    congr 2
    funext q
    by_cases hq : q = j.toNatClampNeg
    · subst hq
      simp [updV, jav, upI, narrow]
    · simp [updV, jav, upI, hq]
  · rcases List.mem_append.mp hq with h | h
    · exact hl q h
    · rw [List.mem_singleton.mp h]; exact jphi_low ha
theorem jx_zast {a n0 : Nat} {j : Int32} {x : Int32} (hd : decode M.2.1 pc = .ok (.bastore, 1)) (hs : sh a = (3, n0)) (hj : vp_in j n0) (kk : jWP w l M d kc ks Qn Qx (pc + 1) ls st (n, sh, upI I a j.toNatClampNeg (x &&& 1), L, R)) : jWP w l M d kc ks Qn Qx pc ls (.int x :: .int j :: .ref a :: st) (n, sh, I, L, R) := by
  intro p e s m args below meth c H LS locs cells slots mc ms hF hR hl hz hv h1 h2
  have kk := fun H' locs' => kk p e s m args below meth c H' LS locs' cells slots mc ms hF
  obtain ⟨ha, ha2, q1⟩ := hR.2.2.2.2 a 3 n0 hs (by decide) (by decide)
  obtain ⟨hx, hb, -, -, -, -, -, -, hK, hW, -⟩ := hF
  refine W.zast hx hb q1 (arrOfT_moved hK.alike (hW.2.2.1 3 (by decide) (by decide)).1 n0 _) (fun q => by cases q) (by show ¬ (j < 0 ∨ (arrV _ _ _).slots.size ≤ _); rw [arrV_size]; exact hj) rfl rfl hd fun H1 e1 e2 e3 => ?_
  refine kk H1 _ (hR.put (σ' := (n, sh, upI I a j.toNatClampNeg (x &&& 1), L, R)) ha e2 e3 rfl rfl (fun _ _ _ h => jfv_upI h) (fun _ _ _ h => jav_upI h) (fun ci h => ?_) (fun t n' h ht1 _ => ?_)) (fun q hq => ?_) (by rw [e2]; exact hz) hv h1 h2
  · have h : sh a = (0, ci) := h
    rw [hs] at h
    cases h
  · have h : sh a = (t, n') := h
    rw [hs] at h
    cases h
    refine ⟨ha, ha2, ?_⟩
    rw [e1, arrV_store]
    congr 2
    funext q
    by_cases hq : q = j.toNatClampNeg
    · subst hq
      simp [updV, jav, upI, narrow]
    · simp [updV, jav, upI, hq]
  · rcases List.mem_append.mp hq with h | h
    · exact hl q h
    · rw [List.mem_singleton.mp h]; exact jphi_low ha
theorem jx_last {a n0 : Nat} {j : Int32} {x : Int64} (hd : decode M.2.1 pc = .ok (.lastore, 1)) (hs : sh a = (4, n0)) (hj : vp_in j n0) (kk : jWP w l M d kc ks Qn Qx (pc + 1) ls st (n, sh, I, upL L a j.toNatClampNeg (x), R)) : jWP w l M d kc ks Qn Qx pc ls (.long x :: .int j :: .ref a :: st) (n, sh, I, L, R) := by
  intro p e s m args below meth c H LS locs cells slots mc ms hF hR hl hz hv h1 h2
  have kk := fun H' locs' => kk p e s m args below meth c H' LS locs' cells slots mc ms hF
  obtain ⟨ha, ha2, q1⟩ := hR.2.2.2.2 a 4 n0 hs (by decide) (by decide)
  obtain ⟨hx, hb, -, -, -, -, -, -, hK, hW, -⟩ := hF
  refine W.last hx hb q1 (arrOfT_moved hK.alike (hW.2.2.1 4 (by decide) (by decide)).1 n0 _) (fun q => by cases q) (by show ¬ (j < 0 ∨ (arrV _ _ _).slots.size ≤ _); rw [arrV_size]; exact hj) rfl rfl hd fun H1 e1 e2 e3 => ?_
  refine kk H1 _ (hR.put (σ' := (n, sh, I, upL L a j.toNatClampNeg (x), R)) ha e2 e3 rfl rfl (fun _ _ _ h => jfv_upL h) (fun _ _ _ h => jav_upL h) (fun ci h => ?_) (fun t n' h ht1 _ => ?_)) (fun q hq => ?_) (by rw [e2]; exact hz) hv h1 h2
  · have h : sh a = (0, ci) := h
    rw [hs] at h
    cases h
  · have h : sh a = (t, n') := h
    rw [hs] at h
    cases h
    refine ⟨ha, ha2, ?_⟩
    rw [e1, arrV_store]
    congr 2
    funext q
    by_cases hq : q = j.toNatClampNeg
    · subst hq
      simp [updV, jav, upL]
    · simp [updV, jav, upL, hq]
  · rcases List.mem_append.mp hq with h | h
    · exact hl q h
    · rw [List.mem_singleton.mp h]; exact jphi_low ha
theorem jx_alen {a n0 t : Nat} (hd : decode M.2.1 pc = .ok (.arraylength, 1)) (hs : sh a = (t, n0)) (ht1 : 1 ≤ t) (ht2 : t ≤ 6) (kk : jWP w l M d kc ks Qn Qx (pc + 1) ls (.int (Int32.ofNat n0) :: st) (n, sh, I, L, R)) : jWP w l M d kc ks Qn Qx pc ls (.ref a :: st) (n, sh, I, L, R) := by
  intro p e s m args below meth c H LS locs cells slots mc ms hF hR hl hz hv h1 h2
  have kk := kk p e s m args below meth c H LS locs cells slots mc ms hF hR hl hz hv h1 h2
  obtain ⟨-, -, q1⟩ := hR.2.2.2.2 a t n0 hs ht1 ht2
  obtain ⟨hx, hb, -, -, -, -, -, -, hK, hW, -⟩ := hF
  exact W.alen (n := Int32.ofNat n0) hx hb q1 (arrOfT_moved hK.alike (hW.2.2.1 t ht1 ht2).1 n0 _) (by rw [arrV_size] <;> rfl) rfl rfl hd kk
end JH
