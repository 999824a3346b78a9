section JT2
def jgd (c : Cond) : Bool := goodWord c || (c.onTables && c.faceAtom)
theorem jword2 {w : jWD} {l : Launch} {s : State} (hW : jWok w l) (hK : w.1.WarmedH s.vm) {c : Cond} (hc : c ∈ lw_tbl) (hg : jgd c = true) (args : Array Value) : c.before args s = true := by
  unfold jgd at hg
  rw [Bool.or_eq_true] at hg
  rcases hg with hg | hg
  · exact jword hW hK hc hg args
  · rw [Bool.and_eq_true] at hg
    obtain ⟨args0, h⟩ := hW.1
    exact va_tabs hg.1 (rfl : (w.1.setVm s.vm).vm = s.vm) (Cond.faceAtom_setVm hK.alike c hg.2 (h c hc))
/-- nothing that the picture speaks of has changed; there may be more cells -/
theorem jRel.more {w : jWD} {n : Nat} {sh : Nat → Nat × Nat} {I : Nat → Nat → Int32} {L : Nat → Nat → Int64} {R : Nat → Nat → Option Nat} {H H' : Heap} (hR : jRel w (n, sh, I, L, R) H) (hz : H.size ≤ H'.size) (hk : ∀ q : Nat, q < H.size → H'[q]? = H[q]?) : jRel w (H'.size - jB w + 1000, sh, I, L, R) H' := by
  obtain ⟨r1, r2, r3, r4, r5⟩ := hR
  have r1 : 1000 ≤ n := r1
  have r2 : H.size = jB w + (n - 1000) := r2
  have lt : ∀ a, 1000 ≤ a → a < n → jphi w a < H.size := fun a h1 h2 => by rw [jphi_ge h1, r2]; omega
  refine ⟨?_, ?_, fun q hq => ?_, fun a ci ha => ?_, fun a t m ha h1 h2 => ?_⟩
  · show 1000 ≤ H'.size - jB w + 1000
    omega
  · show H'.size = jB w + (H'.size - jB w + 1000 - 1000)
    omega
  · rw [hk q (by omega)]; exact r3 q hq
  · obtain ⟨c1, c2, r, c3, cell, c4, c5⟩ := r4 a ci ha
    have c2 : a < n := c2
    refine ⟨c1, ?_, r, c3, cell, by rw [hk _ (lt a c1 c2)]; exact c4, c5⟩
    show a < H'.size - jB w + 1000
    omega
  · obtain ⟨c1, c2, c3⟩ := r5 a t m ha h1 h2
    have c2 : a < n := c2
    refine ⟨c1, ?_, by rw [hk _ (lt a c1 c2)]; exact c3⟩
    show a < H'.size - jB w + 1000
    omega
def jno (own : String) (ic : Nat) (X Y : String) (i1 : Nat) (b1 : ByteArray) (names : List String) : List Cond := (jatS own ic X Y i1 b1 names).filter vx_no
variable {w : jWD} {l : Launch} {M : jMI} {d kc ks : Nat} {Qn : Option Value → jHS → Prop} {Qx : String → jHS → Prop} {pc : Nat} {ls : List (Nat × Value)} {st : List Value}
variable {n : Nat} {sh : Nat → Nat × Nat} {I : Nat → Nat → Int32} {L : Nat → Nat → Int64} {R : Nat → Nat → Option Nat}
set_option maxHeartbeats 2000000 in
theorem jx_throwG {own cls text Y0 : String} {names : List String} {ik is ic i1 sa len : Nat} {b1 : ByteArray} (hO : M.1.cls = own) (hM : M.2.2.2.2 = [])
    (hcls : Bundle.fit cls = true) (hY0 : Bundle.fit Y0 = true) (hnames : ∀ n ∈ names, Bundle.fit n = true)
    (z0 : decode b1 0 = .ok (.aload_n 0, 1)) (z1 : decode b1 1 = .ok (.aload_n 1, 1)) (z2 : decode b1 2 = .ok (.invokespecial i1, 3)) (z5 : decode b1 5 = .ok (.return_, 1))
    (hk : Cond.classLink own ik cls ∈ lw_tbl) (hini : Cond.initialized cls ∈ lw_tbl) (hstr : ∀ s : State, w.1.WarmedH s.vm → jWok w l → vk_R own is text sa s)
    (hat : ∀ c ∈ jno own ic cls Y0 i1 b1 names, c ∈ lw_tbl ∧ jgd c = true)
    (hlen : names.length = 1) (hst : (st.map Value.category).sum ≤ 8)
    (d0 : decode M.2.1 pc = .ok (.new ik, 3)) (d3 : decode M.2.1 (pc + 3) = .ok (.dup, 1)) (d4 : (decode M.2.1 (pc + 4) = .ok (.ldc is, 2) ∧ len = 2) ∨ (decode M.2.1 (pc + 4) = .ok (.ldc_w is, 3) ∧ len = 3)) (d6 : decode M.2.1 (pc + 4 + len) = .ok (.invokespecial ic, 3)) (d9 : decode M.2.1 (pc + 4 + len + 3) = .ok (.athrow, 1))
    (hkc : 1 ≤ kc) (hks : 6 ≤ ks) (hq : ∀ n', n ≤ n' → Qx cls (n', sh, I, L, R)) : jWP w l M d kc ks Qn Qx pc ls st (n, sh, I, L, R) := by
  intro p e s m args below meth c H LS locs cells slots mc ms hF hR hlo hz hv h1 h2 T hT X
  have hrel := hR
  obtain ⟨hexec, hb, hml, -, hlocks, hown, -, hex, hK, hW, hBs, hlow⟩ := hF
  rw [hO] at hown
  obtain ⟨-, -, -, ⟨hU0, hN0⟩, hl, -⟩ := id hW
  have htr : e.platform.stackTraces = false := (show e.platform.stackTraces = l.stackTraces by rw [X.admits.platform]).trans hl
  have hc1 : cells + 1 ≤ mc := by omega
  have hs1 : slots + 6 ≤ ms := by omega
  have Y := vx_rebase X (R' := { frames := d + 6, locals := 100 * (d + 1), cells := 1, slots := 6 }) (Nat.le_refl _) (Nat.le_refl _) hc1 hs1
  obtain ⟨s', hA⟩ : ∃ z, z = (T.setVm s.vm).setFrames (.invoking m args :: below) := ⟨_, rfl⟩
  rw [← hA] at Y
  have hvm : s'.vm = s.vm := by rw [hA]; rfl
  have hhp : s'.heap = H := by rw [hA]; exact hT
  have hW0 : s.WarmedH s'.vm := by rw [hvm]; exact State.WarmedH.refl s
  have hK' : w.1.WarmedH s'.vm := by rw [hvm]; exact hK
  have keep : ∀ a : Nat, a < w.1.heap.size → ¬ jB w ≤ a → H[a]? = w.1.heap[a]? := fun a _ h => hR.2.2.1 a (Nat.not_le.mp h)
  have hU' : vx_Zq Bundle.tN "UNASSIGNED_STACK" Bundle.steD (fun q => jB w ≤ q) s' s'.heap := by rw [hhp]; exact vx_Zq.moved hK'.alike (hU0.kept keep)
  have hN' : vx_Zq Bundle.tN "SUPPRESSED_SENTINEL" Bundle.listD (fun q => jB w ≤ q) s' s'.heap := by rw [hhp]; exact vx_Zq.moved hK'.alike (hN0.kept keep)
  have hall : ∀ x ∈ jatS own ic cls Y0 i1 b1 names, x.before args s' = true := vx_own (fun x hx => jword2 hW hK' (hat x hx).1 (hat x hx).2 args) (vx_isRefq hU'.1) (vx_isRefq hN'.1) hU'.2.word hN'.2.word
  have hown' : s'.vm.findClass own = some m.cls := by rw [hvm]; exact hown
  have hins : (Cond.instantiable cls 6).before args s' = true := hall _ (by simp [jatS])
  obtain ⟨vm₁, cX, kX, hfX, hkX, -, -, X₁, st1⟩ := Y.newCold hexec (own := own) (C := cls) (index := ik) (n := 6) hown' (jword hW hK' hk rfl args) hins (jword hW hK' hini rfl args)
    (g := F0 m pc LS (st.map (jvm w))) rfl (by rw [hb]; exact d0) (Nat.le_refl _) (Nat.le_refl _)
  generalize hT1 : (T.setVm vm₁).pushCell { cls := cX, slots := kX.instanceTypes.map defaultValue, vm := .none } = T1 at X₁ st1
  have hcat : (Value.ref T.heap.size).category = 1 := rfl
  have hcellA : T1.heap[T.heap.size]? = some (freshCell cX kX) := by rw [← hT1]; exact State.heap_pushCell_size _ _
  have d3' : decode c.code (pc + 3) = .ok (.dup, 1) := by rw [hb]; exact d3
  have hstr' : vk_R own is text sa s' := hstr s' hK' hW
  have hsum := jcat_sum w st
  obtain ⟨U, hsteps, hrun, hend, hW2, hsame, ce, hce, hcv, hcc⟩ := jctor X₁ hexec htr (own := own) (cls := cls) (names := names) (ic := ic) hown' hcls hY0 hnames z0 z1 z2 z5 hall (fun x hx => nomatch hx) hfX hkX hcellA (by rw [hhp, hT]; exact Nat.le_refl _) (msg := .ref sa) rfl
    (g := { method := m, pc := pc + 4 + len, locals := LS, stack := .ref sa :: .ref T.heap.size :: .ref T.heap.size :: st.map (jvm w), locked := none }) rfl (hv.1.trans hml.symm) rfl rfl (rest := st.map (jvm w)) rfl
    (by rw [hb]; exact d6) (by rw [hb]; exact d9) (fun x hx => by rw [hex, hM] at hx; cases hx) (by show _ < d + 6; omega) (by show 2 * 0 + _ + _ ≤ 100 * (d + 1); simp only [List.map_cons, List.sum_cons, hcat, hlen]; omega) hlocks
  obtain ⟨f1, f2⟩ := vx_frame hsame
  rw [hhp] at f1 f2
  have hWs : s.WarmedH U.vm := State.WarmedH.trans hW0 hW2
  have hcl : s.vm.findClass cls = some ce.cls := by
    rw [hvm] at hcc
    exact hcc
  have hall2 : s.sameButNew ({ U with vm := s.vm } : State) locs mc ms := by
    subst hA
    obtain ⟨e1, e2⟩ := hsame
    rw [State.setFrames_setFrames] at e1
    have h2 : (T.setVm s.vm).sameButNew ({ U with vm := s.vm } : State) [] (0 + 1) (0 + 6) := ⟨e1, e2⟩
    have h3 := X.same.trans h2
    rw [List.append_nil] at h3
    exact h3.mono hc1 hs1
  have hfin := jRel.more hrel f1 (fun q hq => f2 q hq (fun z hz => nomatch hz))
  have hge : n ≤ U.heap.size - jB w + 1000 := by
    have a1 : 1000 ≤ n := hrel.1
    have a2 : H.size = jB w + (n - 1000) := hrel.2.1
    omega
  refine ⟨U, ?_, .threw T.heap.size, hrun, hend, Or.inr ⟨T.heap.size, rfl, cls, ce, locs, ⟨_, hq _ hge, hfin⟩, hce, hcv, hcl, hWs, hall2, hlo⟩⟩
  refine st1 _ ?_
  show Steps p.tables e below (T1.setTop { method := m, pc := pc + 3, locals := LS, stack := .ref T.heap.size :: st.map (jvm w), locked := none }) _
  jvm_step X₁.here [X₁.here.top, hexec, d3', Value.category]
  rcases d4 with ⟨d4, hL⟩ | ⟨d4, hL⟩
  · subst hL
    exact X₁.ldcString hexec (own := own) (text := text) (index := is) (a := sa) hown' hstr'.1 hstr'.2
      (g := { method := m, pc := pc + 4, locals := LS, stack := .ref T.heap.size :: .ref T.heap.size :: st.map (jvm w), locked := none }) rfl (by rw [hb]; exact d4) _ hsteps
  · subst hL
    exact X₁.ldcStringW hexec (own := own) (text := text) (index := is) (a := sa) hown' hstr'.1 hstr'.2
      (g := { method := m, pc := pc + 4, locals := LS, stack := .ref T.heap.size :: .ref T.heap.size :: st.map (jvm w), locked := none }) rfl (by rw [hb]; exact d4) _ hsteps
end JT2
