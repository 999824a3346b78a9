/-! the JDK's own methods that are plain code -/
section JK
variable {w : jWD} {l : Launch} {M : jMI} {d kc ks : Nat} {Qn : Option Value → jHS → Prop} {Qx : String → jHS → Prop} {σ σ' : jHS}
theorem jCt_ofF (hW : jWok w l) (hy : plainFor M.1 = true) (hh : M.2.2.2.2 = []) {as : List Value} (hlen : (as.map Value.category).sum ≤ M.2.2.1) (h : jWP w l M d kc ks Qn Qx 0 (lv_args 0 as) [] σ) : jCt w l M d kc ks as σ Qn Qx := by
  have ew : jcw M = .code M.1 M.2.1 M.2.2.1 M.2.2.2.1 := if_pos hh
  refine MetFree.of_bodySF (code := M.2.1) (maxLocals := M.2.2.1) (ret := M.2.2.2.1) hy ?_ ?_
  · intro args s m h hn
    obtain ⟨meth, c, h1, h2, h3, h4, h5, h6, -, -⟩ := Cond.code_spec hn (atoms_spec (ws := [jcw M]) h _ (by rw [ew]; exact List.mem_cons_self))
    exact ⟨meth, c, h1, h2, h3, h4, h5, h6⟩
  · intro p e s m args below meth c s₁ B hml hv _
    have hh0 : s₁.heap = s.heap := by rw [B.state]; rfl
    have ht : c.exceptionTable.toList = tableOf M.2.2.2.2 := by
      obtain ⟨meth9, c9, h1, h2, -, -, -, -, h7, -⟩ := Cond.code_spec B.named (atoms_spec (ws := [jcw M]) B.pre _ (by rw [ew]; exact List.mem_cons_self))
      cases Option.some.inj (h1.symm.trans B.method)
      cases Option.some.inj (h2.symm.trans (Stand.of_body B).code)
      rw [hh, Array.isEmpty_iff.mp h7]
      rfl
    obtain ⟨rfl, hR, hK⟩ := hv
    have hl := lv_entry (as.map (jvm w)) (n := M.2.2.1) (by rw [jsl_len]; exact hlen)
    rw [jlm_args] at hl
    have k := h p e s m ((as.map (jvm w)).toArray) below meth c s.heap (_) [] 0 0 kc ks ⟨B.exec, B.bytes, hml, B.returns, B.notSynchronized, findClass_of_methodNamed B.named, (name_of_methodNamed B.named B.method).1, ht, hK, hW, jlow hR, hR.2.2.1⟩ hR (fun _ hq => by cases hq) (Nat.le_refl _) hl (by omega) (by omega)
    rw [List.map_nil, ← lg_entry_eq] at k
    obtain ⟨t, a1, o, b1, b2, b3⟩ := k s₁ hh0 (Stand.of_body B)
    exact ⟨t, o, a1, b1, b2, b3⟩
theorem jCD_ofF (hW : jWok w l) (hy : plainFor M.1 = true) (hh : M.2.2.2.2 = []) {as : List Value} {v : Option Value} (hlen : (as.map Value.category).sum ≤ M.2.2.1) (h : jWP w l M d 0 0 (fun r t => r = v ∧ t = σ') (fun _ _ => False) 0 (lv_args 0 as) [] σ) : jCD w l M d as σ v σ' := jCt_ofF hW hy hh hlen h
end JK
section JK2
variable {w : jWD} {l : Launch} {n : Nat} {sh : Nat → Nat × Nat} {I : Nat → Nat → Int32} {L : Nat → Nat → Int64} {R : Nat → Nat → Option Nat}

set_option maxHeartbeats 1000000 in
set_option maxRecDepth 20000 in
theorem tJ9_min_7cf53 (hW : jWok w l) (x y : Int32) (σ : jHS) : jCD w l mJ9_min_7cf53 1 [.int x, .int y] σ (some (.int (if y < x then y else x))) σ := by
  refine jCD_ofF hW (by decide +kernel) rfl (Nat.le_of_ble_eq_true rfl) ?_
  refine jx_iload_n dJ9_min_7cf53_0 rfl ?_
  refine jx_iload_n dJ9_min_7cf53_1 rfl ?_
  refine jx_icmp_gt 9 dJ9_min_7cf53_2 (by decide) (fun h2 => ?_) (fun h2 => ?_)
  · refine jx_iload_n dJ9_min_7cf53_9 rfl ?_
    refine jx_iret dJ9_min_7cf53_10 rfl ?_
    refine ⟨?_, rfl⟩
    simp [h2]
  · refine jx_iload_n dJ9_min_7cf53_5 rfl ?_
    refine jx_goto 10 dJ9_min_7cf53_6 (by decide) ?_
    refine jx_iret dJ9_min_7cf53_10 rfl ?_
    refine ⟨?_, rfl⟩
    simp [h2]
set_option maxHeartbeats 1000000 in
set_option maxRecDepth 20000 in
theorem tJ9_max_7cf53 (hW : jWok w l) (x y : Int32) (σ : jHS) : jCD w l mJ9_max_7cf53 1 [.int x, .int y] σ (some (.int (if x < y then y else x))) σ := by
  refine jCD_ofF hW (by decide +kernel) rfl (Nat.le_of_ble_eq_true rfl) ?_
  refine jx_iload_n dJ9_max_7cf53_0 rfl ?_
  refine jx_iload_n dJ9_max_7cf53_1 rfl ?_
  refine jx_icmp_lt 9 dJ9_max_7cf53_2 (by decide) (fun h2 => ?_) (fun h2 => ?_)
  · refine jx_iload_n dJ9_max_7cf53_9 rfl ?_
    refine jx_iret dJ9_max_7cf53_10 rfl ?_
    refine ⟨?_, rfl⟩
    simp [h2]
  · refine jx_iload_n dJ9_max_7cf53_5 rfl ?_
    refine jx_goto 10 dJ9_max_7cf53_6 (by decide) ?_
    refine jx_iret dJ9_max_7cf53_10 rfl ?_
    refine ⟨?_, rfl⟩
    simp [h2]
set_option maxHeartbeats 1000000 in
set_option maxRecDepth 20000 in
theorem tJ9_floorMod_7cf53 (hW : jWok w l) (x y : Int32) (hy : ¬ y = 0) (σ : jHS) : jCD w l mJ9_floorMod_7cf53 1 [.int x, .int y] σ (some (.int (if 0 ≤ (x ^^^ y) then x - x / y * y else if x - x / y * y = 0 then x - x / y * y else x - x / y * y + y))) σ := by
  refine jCD_ofF hW (by decide +kernel) rfl (Nat.le_of_ble_eq_true rfl) ?_
  refine jx_iload_n dJ9_floorMod_7cf53_0 rfl ?_
  refine jx_iload_n dJ9_floorMod_7cf53_1 rfl ?_
  refine jx_irem dJ9_floorMod_7cf53_2 ?_ ?_
  · exact hy
  refine jx_istore_n dJ9_floorMod_7cf53_3 rfl (by decide) ?_
  refine jx_iload_n dJ9_floorMod_7cf53_4 rfl ?_
  refine jx_iload_n dJ9_floorMod_7cf53_5 rfl ?_
  refine jx_ixor dJ9_floorMod_7cf53_6 ?_
  refine jx_if_ge 18 dJ9_floorMod_7cf53_7 (by decide) (fun h7 => ?_) (fun h7 => ?_)
  · refine jx_iload_n dJ9_floorMod_7cf53_18 rfl ?_
    refine jx_iret dJ9_floorMod_7cf53_19 rfl ?_
    refine ⟨?_, rfl⟩
    first | (simp only [h7, if_true]; done) | (simp only [h7, h11, if_true, if_false]; done) | (simp [h7, h11]; done)
  · refine jx_iload_n dJ9_floorMod_7cf53_10 rfl ?_
    refine jx_if_eq 18 dJ9_floorMod_7cf53_11 (by decide) (fun h11 => ?_) (fun h11 => ?_)
    · refine jx_iload_n dJ9_floorMod_7cf53_18 rfl ?_
      refine jx_iret dJ9_floorMod_7cf53_19 rfl ?_
      refine ⟨?_, rfl⟩
      first | (simp only [h7, if_true]; done) | (simp only [h7, h11, if_true, if_false]; done) | (simp [h7, h11]; done)
    · refine jx_iload_n dJ9_floorMod_7cf53_14 rfl ?_
      refine jx_iload_n dJ9_floorMod_7cf53_15 rfl ?_
      refine jx_iadd dJ9_floorMod_7cf53_16 ?_
      refine jx_iret dJ9_floorMod_7cf53_17 rfl ?_
      refine ⟨?_, rfl⟩
      first | (simp only [h7, if_true]; done) | (simp only [h7, h11, if_true, if_false]; done) | (simp [h7, h11]; done)
set_option maxHeartbeats 1000000 in
set_option maxRecDepth 20000 in
theorem tJ7_fill_53178 (hW : jWok w l) {a h : Nat} (v : Int32) (hs : sh a = (1, h)) (hh : h < 65536) : jCD w l mJ7_fill_53178 1 [.ref a, .int v] (n, sh, I, L, R) none (n, sh, fl I a (fun _ => v) h, L, R) := by
  refine jCD_ofF hW (by decide +kernel) rfl (Nat.le_of_ble_eq_true rfl) ?_
  have key : ∀ k, k ≤ h → jWP w l mJ7_fill_53178 1 0 0 (fun r t => r = none ∧ t = (n, sh, fl I a (fun _ => v) h, L, R)) (fun _ _ => False) 5 [(0, .ref a), (1, .int v), (2, .int (nI k)), (3, .int (nI h))] [] (n, sh, fl I a (fun _ => v) k, L, R) := by
    refine jdown h (fun k hk ih => ?_)
    refine jx_iload_n dJ7_fill_53178_5 rfl ?_
    refine jx_iload_n dJ7_fill_53178_6 rfl ?_
    refine jx_icmp_ge 20 dJ7_fill_53178_7 (by decide) (fun h7 => ?_) (fun h7 => ?_)
    · refine jx_vret dJ7_fill_53178_20 rfl ?_
      have : k = h := by have := nge_of (by omega) (by omega) h7; omega
      subst this
      exact ⟨rfl, rfl⟩
    · have hlt : k < h := nlt_of (by omega) (by omega) h7
      refine jx_aload_n dJ7_fill_53178_10 rfl ?_
      refine jx_iload_n dJ7_fill_53178_11 rfl ?_
      refine jx_iload_n dJ7_fill_53178_12 rfl ?_
      refine jx_iastN (k) dJ7_fill_53178_13 hs (rfl) (by omega) (by omega) ?_
      refine jx_iinc dJ7_fill_53178_14 rfl (v := nI (k + 1)) (nI_1 k) (by decide) ?_
      refine jx_goto 5 dJ7_fill_53178_17 (by decide) ?_
      rw [fl_s]
      exact jx_ls (by exact ⟨rfl, rfl, rfl, rfl, trivial⟩) (ih hlt)
  have key := key 0 (by omega)
  rw [fl_0] at key
  refine jx_iconst (v := 0) dJ7_fill_53178_0 (by decide) ?_
  refine jx_istore_n dJ7_fill_53178_1 rfl (by decide) ?_
  refine jx_aload_n dJ7_fill_53178_2 rfl ?_
  refine jx_alen dJ7_fill_53178_3 hs (by decide) (by decide) ?_
  refine jx_istore_n dJ7_fill_53178_4 rfl (by decide) ?_
  exact jx_ls (by exact ⟨rfl, rfl, rfl, rfl, trivial⟩) key
set_option maxHeartbeats 1000000 in
set_option maxRecDepth 20000 in
theorem tJ7_fill_d0a16 (hW : jWok w l) {a h : Nat} (v : Int64) (hs : sh a = (4, h)) (hh : h < 65536) : jCD w l mJ7_fill_d0a16 1 [.ref a, .long v] (n, sh, I, L, R) none (n, sh, I, flL L a (fun _ => v) h, R) := by
  refine jCD_ofF hW (by decide +kernel) rfl (Nat.le_of_ble_eq_true rfl) ?_
  have key : ∀ k, k ≤ h → jWP w l mJ7_fill_d0a16 1 0 0 (fun r t => r = none ∧ t = (n, sh, I, flL L a (fun _ => v) h, R)) (fun _ _ => False) 6 [(0, .ref a), (1, .long v), (3, .int (nI k)), (4, .int (nI h))] [] (n, sh, I, flL L a (fun _ => v) k, R) := by
    refine jdown h (fun k hk ih => ?_)
    refine jx_iload_n dJ7_fill_d0a16_6 rfl ?_
    refine jx_iload dJ7_fill_d0a16_7 rfl ?_
    refine jx_icmp_ge 22 dJ7_fill_d0a16_9 (by decide) (fun h9 => ?_) (fun h9 => ?_)
    · refine jx_vret dJ7_fill_d0a16_22 rfl ?_
      have : k = h := by have := nge_of (by omega) (by omega) h9; omega
      subst this
      exact ⟨rfl, rfl⟩
    · have hlt : k < h := nlt_of (by omega) (by omega) h9
      refine jx_aload_n dJ7_fill_d0a16_12 rfl ?_
      refine jx_iload_n dJ7_fill_d0a16_13 rfl ?_
      refine jx_lload_n dJ7_fill_d0a16_14 rfl ?_
      refine jx_lastN (k) dJ7_fill_d0a16_15 hs (rfl) (by omega) (by omega) ?_
      refine jx_iinc dJ7_fill_d0a16_16 rfl (v := nI (k + 1)) (nI_1 k) (by decide) ?_
      refine jx_goto 6 dJ7_fill_d0a16_19 (by decide) ?_
      rw [flL_s]
      exact jx_ls (by exact ⟨rfl, rfl, rfl, rfl, trivial⟩) (ih hlt)
  have key := key 0 (by omega)
  rw [flL_0] at key
  refine jx_iconst (v := 0) dJ7_fill_d0a16_0 (by decide) ?_
  refine jx_istore_n dJ7_fill_d0a16_1 rfl (by decide) ?_
  refine jx_aload_n dJ7_fill_d0a16_2 rfl ?_
  refine jx_alen dJ7_fill_d0a16_3 hs (by decide) (by decide) ?_
  refine jx_istore dJ7_fill_d0a16_4 (by decide) ?_
  exact jx_ls (by exact ⟨rfl, rfl, rfl, rfl, trivial⟩) key
end JK2
