/-! THE CLASS: the way that is taken -/
theorem CF_o {I J : Nat → Nat → Int32} {L M : Nat → Nat → Int64} {R : Nat → Nat → Option Nat} {h : Nat} {T : Nat → Nat → Int32} {W H np len : Nat} (hc : CF I L R h T W H np len) (e1 : ∀ b j, 1008 ≤ b → b ≤ 1042 → ¬ (b = 1040 ∧ (j = 7 ∨ j = 8)) → b ≠ 1015 → b ≠ 1031 → J b j = I b j) (e2 : ∀ b j, 1008 ≤ b → b ≤ 1040 → M b j = L b j) : CF J M R h T W H np len := by
  obtain ⟨⟨hh, hRi⟩, hI, hRI, hok, hFL, hSK⟩ := hc
  have hn := hRI.2.2.2.2.1.2
  have g : ∀ b j, (b = h ∨ b = h + 1 ∨ b = h + 2 ∨ b = h + 3 ∨ b = h + 5 ∨ b = h + 6 ∨ b = h + 9 ∨ (h + 10 ≤ b ∧ b < h + 16)) → J b j = I b j := fun b j hb => e1 b j (by omega) (by omega) (by omega) (by omega) (by omega)
  have gl : ∀ b j, (b = h + 1 ∨ b = h + 4) → M b j = L b j := fun b j hb => e2 b j (by omega) (by omega)
  obtain ⟨⟨⟨a1, a2⟩, a3, ⟨a4, a5⟩, ⟨a6, a7⟩, ⟨a8, a9⟩, ⟨b1, b2, b3⟩, b4⟩, ⟨c1, c2⟩, ⟨d1, d2⟩, ⟨f1, f2, f3, f4⟩, f5⟩ := hI
  refine ⟨⟨hh, hRi⟩, ⟨⟨⟨(g _ _ (by omega)).trans a1, (g _ _ (by omega)).trans a2⟩, fun c hc => (g _ _ (by omega)).trans (a3 c hc), ⟨(g _ _ (by omega)).trans a4, fun k hk => (g _ _ (by omega)).trans (a5 k hk)⟩, ⟨(g _ _ (by omega)).trans a6, (g _ _ (by omega)).trans a7⟩, ⟨(gl _ _ (by omega)).trans a8, (gl _ _ (by omega)).trans a9⟩, ⟨(gl _ _ (by omega)).trans b1, (gl _ _ (by omega)).trans b2, (gl _ _ (by omega)).trans b3⟩, fun k hk => (gl _ _ (by omega)).trans (b4 k hk)⟩, ⟨(g _ _ (by omega)).trans c1, fun k hk => (g _ _ (by omega)).trans (c2 k hk)⟩, ⟨(g _ _ (by omega)).trans d1, fun p k hp hk => (g _ _ (by omega)).trans (d2 p k hp hk)⟩, ⟨(g _ _ (by omega)).trans f1, (g _ _ (by omega)).trans f2, (g _ _ (by omega)).trans f3, (g _ _ (by omega)).trans f4⟩, fun f hf => (g _ _ (by omega)).trans (f5 f hf)⟩, hRI, hok, fun day hd hb t ht => ?_, fun p day hp hd => ?_⟩
  · rw [e2 1040 2 (by omega) (by omega)] at hb
    rw [e1 1041 _ (by omega) (by omega) (by omega) (by omega) (by omega)]
    exact hFL day hd hb t ht
  · rw [e1 1042 _ (by omega) (by omega) (by omega) (by omega) (by omega)]
    exact hSK p day hp hd
theorem k1_lt {f : Nat} (h : f < 1000) : nI f - 1 < nI f := by
  rw [Int32.lt_iff_toInt_lt, Int32.toInt_sub, nI_toInt (by omega), show (1 : Int32).toInt = 1 from by decide, bmod_in (by omega) (by omega)]
  omega
section CH1
variable {w : jWD} {l : Launch} {n : Nat} {I : Nat → Nat → Int32} {L : Nat → Nat → Int64} {R : Nat → Nat → Option Nat}

set_option maxHeartbeats 1000000 in
set_option maxRecDepth 20000 in
theorem tX0_nextCell (hW : jWok w l) (hR : RS R) {h : Nat} {T : Nat → Nat → Int32} {W H np len : Nat} (hC : CF I L R h T W H np len) {home pace : Nat} {m : Nat → Nat → Bool} (hP : Prep I L W H home pace m) (hp1 : 1 ≤ pace) (hp7 : pace ≤ 7) {t last c : Nat} (ht : t < last) (hl : last < 96) (hc : c < W * H) {g : Nat → Nat → Bool} (hg : ∀ t', t < t' → t' ≤ last → L 1044 t' = bs (g t')) (hgl : ∀ t' c, g t' c = true → c < W * H) : jCD w l mX0_nextCell 2 [.ref 1040, .int (nI c), .int (nI t), .int (nI last)] (n, shE, I, L, R) (some (.int (nI ((fnd (chF W H pace m g c t last) 63).getD c)))) (n, shE, I, L, R) := by
  refine jCD_of hW (by decide) rfl (Nat.le_of_ble_eq_true rfl) ?_
  have hC0 := hC
  have hP0 := hP
  obtain ⟨⟨hh, hRi⟩, hI, hRI, -, -, -⟩ := hC
  have hT := RI.tq hRI
  have hwh : W * H ≤ 63 := Nat.mul_le_mul hT.1.2 hT.2.1.2
  obtain ⟨hP1, hP2, hP3⟩ := hP
  have key82 : ∀ k, k ≤ 63 → (∀ j, j < k → chF W H pace m g c t last j = false) → jWP w l mX0_nextCell 2 0 0 (fun r t_1 => r = (some (.int (nI ((fnd (chF W H pace m g c t last) 63).getD c)))) ∧ t_1 = (n, shE, I, L, R)) (fun _ _ => False) 82 [(0, .ref 1040), (1, .int (nI c)), (2, .int (nI t)), (3, .int (nI last)), (4, .long (bs (chF W H pace m g c t last))), (6, .int (nI k))] [] (n, shE, I, L, R) := by
    refine jdown _ (fun k hk ih hj => ?_)
    refine jx_iload dX0_nextCell_82 rfl ?_
    refine jx_bipush (v := 63) dX0_nextCell_84 (by decide) ?_
    refine jx_icmpN_ge (a := k) (b := 63) 108 dX0_nextCell_86 (by decide) (by omega) (by omega) (fun h86 => ?_) (fun h86 => ?_)
    · refine jx_iload_n dX0_nextCell_108 rfl ?_
      refine jx_iret dX0_nextCell_109 rfl ?_
      refine ⟨?_, rfl⟩
      rw [fnd_none.mpr (fun j hj2 => hj j (by omega))]
      rfl
    · refine jx_lload dX0_nextCell_89 rfl ?_
      refine jx_iload dX0_nextCell_91 rfl ?_
      refine jx_Ni (as := [.long _, .int _]) dX0_nextCell_93 mlX0_47 okX10_has stX10_has rfl (by decide) (Nat.le_of_ble_eq_true rfl) (tX10_has hW (c := k) (by omega) _) ?_
      rw [bt_bs (by omega)]
      refine jx_ifB_eq 102 dX0_nextCell_96 (by decide) (fun h96 => ?_) (fun h96 => ?_)
      · refine jx_iinc dX0_nextCell_102 rfl (v := nI (k + 1)) (nI_1 _) (by decide) ?_
        refine jx_goto 82 dX0_nextCell_105 (by decide) ?_
        exact jx_ls (by exact ⟨rfl, rfl, rfl, rfl, rfl, rfl, trivial⟩) (ih (by omega) (fun j hj2 => by
          by_cases z : j = k
          · rw [z]; exact h96
          · exact hj j (by omega)))
      · refine jx_iload dX0_nextCell_99 rfl ?_
        refine jx_iret dX0_nextCell_101 rfl ?_
        refine ⟨?_, rfl⟩
        rw [fnd_some.mpr ⟨by omega, h96, hj⟩]
        rfl
  have key33 : ∀ f : Nat → Bool, (∀ q, f q = (decide (t + 1 ≤ last) && (g (t + 1) q && m q (t + 1) && decide (q = c)))) → jWP w l mX0_nextCell 2 0 0 (fun r t_1 => r = (some (.int (nI ((fnd (chF W H pace m g c t last) 63).getD c)))) ∧ t_1 = (n, shE, I, L, R)) (fun _ _ => False) 33 [(0, .ref 1040), (1, .int (nI c)), (2, .int (nI t)), (3, .int (nI last)), (4, .long (bs f))] [] (n, shE, I, L, R) := by
    intro f hf
    rcases hh with rfl | rfl
    all_goals
    refine jx_iload_n dX0_nextCell_33 rfl ?_
    refine jx_aload_n dX0_nextCell_34 rfl ?_
    refine jx_getIE dX0_nextCell_35 flX0_106 rfl rfl (hP2) ?_
    refine jx_iaddE (z := nI (t + pace)) dX0_nextCell_38 (nI_add t pace) ?_
    refine jx_iload_n dX0_nextCell_39 rfl ?_
    refine jx_icmpN_gt (a := (t + pace)) (b := last) 79 dX0_nextCell_40 (by decide) (by omega) (by omega) (fun h40 => ?_) (fun h40 => ?_)
    · skip
      refine jx_iconst (v := 0) dX0_nextCell_79 (by decide) ?_
      refine jx_istore dX0_nextCell_80 (by decide) ?_
      have kk := key82 0 (by omega) (fun j hj => absurd hj (by omega))
      rw [show bs (chF W H pace m g c t last) = bs f from bs_c (fun q _ => by unfold chF; rw [hf q, decide_eq_false (show ¬ t + pace ≤ last by omega), Bool.false_and, Bool.or_false])] at kk
      exact jx_ls (by exact ⟨rfl, rfl, rfl, rfl, rfl, rfl, trivial⟩) kk
    · refine jx_lload dX0_nextCell_43 rfl ?_
      refine jx_aload_n dX0_nextCell_45 rfl ?_
      refine jx_getR dX0_nextCell_46 flX0_23 rfl rfl (hR _ _ _ rfl) ?_
      refine jx_iload_n dX0_nextCell_49 rfl ?_
      refine jx_aload_n dX0_nextCell_50 rfl ?_
      refine jx_getIE dX0_nextCell_51 flX0_106 rfl rfl (hP2) ?_
      refine jx_iaddE (z := nI (t + pace)) dX0_nextCell_54 (nI_add t pace) ?_
      refine jx_laldE (t + pace) dX0_nextCell_55 rfl (rfl) (by omega) (by omega) (hg (t + pace) (by omega) (by omega)) ?_
      refine jx_aload_n dX0_nextCell_56 rfl ?_
      refine jx_iload_n dX0_nextCell_57 rfl ?_
      refine jx_Vl (as := [.int _]) dX0_nextCell_58 mlX0_141 okX0_safeFrom viX0_safeFrom rfl rfl rfl rfl rfl (by decide) (Nat.le_of_ble_eq_true rfl) (tX0_safeFrom hW hR hC0 hP0 hp1 hp7 (tick := t) (by omega)) ?_
      refine jx_land dX0_nextCell_61 ?_
      refine jx_aload_n dX0_nextCell_62 rfl ?_
      refine jx_getR dX0_nextCell_63 flX0_29 rfl rfl hRi ?_
      refine jx_getR dX0_nextCell_66 flX0_87 rfl rfl (hR _ _ _ rfl) ?_
      refine jx_lconst (v := 1) dX0_nextCell_69 (by decide) ?_
      refine jx_iload_n dX0_nextCell_70 rfl ?_
      refine jx_lshl dX0_nextCell_71 ?_
      refine jx_Vl (d' := 1) (as := [.long _]) dX0_nextCell_72 mlX0_137 okX8_beside viX8_beside rfl rfl rfl rfl rfl (by decide) (Nat.le_of_ble_eq_true rfl) (by rw [bs_1 (by omega)]; exact tX8_beside hW hR (by decide) hI.1 hT (f := fun x => decide (x = c)) (fun x hx => by have := of_decide_eq_true hx; omega)) ?_
      refine jx_land dX0_nextCell_75 ?_
      refine jx_lor dX0_nextCell_76 ?_
      refine jx_lstore dX0_nextCell_77 (by decide) ?_
      refine jx_iconst (v := 0) dX0_nextCell_79 (by decide) ?_
      refine jx_istore dX0_nextCell_80 (by decide) ?_
      rw [bs_and, bs_and, bs_or]
      have kk := key82 0 (by omega) (fun j hj => absurd hj (by omega))
      rw [show bs (chF W H pace m g c t last) = _ from bs_c (fun q _ => by
        show _ = (f q || ((g (t + pace) q && (decide (q < W * H) && allS m q t pace)) && (decide (q < W * H) && besF W H (fun x => decide (x = c)) q)))
        unfold chF
        rw [hf q, decide_eq_true (show t + pace ≤ last by omega), Bool.true_and]
        cases e : g (t + pace) q
        · rfl
        · rw [decide_eq_true (hgl _ _ e)]; rfl)] at kk
      exact jx_ls (by exact ⟨rfl, rfl, rfl, rfl, rfl, rfl, trivial⟩) kk
  rcases hh with rfl | rfl
  all_goals
    refine jx_lconst (v := 0) dX0_nextCell_0 (by decide) ?_
    refine jx_lstore dX0_nextCell_1 (by decide) ?_
    refine jx_iload_n dX0_nextCell_3 rfl ?_
    refine jx_iconst (v := 1) dX0_nextCell_4 (by decide) ?_
    refine jx_iaddE (z := nI (t + 1)) dX0_nextCell_5 (nI_add t 1) ?_
    refine jx_iload_n dX0_nextCell_6 rfl ?_
    refine jx_icmpN_gt (a := (t + 1)) (b := last) 33 dX0_nextCell_7 (by decide) (by omega) (by omega) (fun h7 => ?_) (fun h7 => ?_)
    · exact absurd h7 (by omega)
    · refine jx_aload_n dX0_nextCell_10 rfl ?_
      refine jx_getR dX0_nextCell_11 flX0_23 rfl rfl (hR _ _ _ rfl) ?_
      refine jx_iload_n dX0_nextCell_14 rfl ?_
      refine jx_iconst (v := 1) dX0_nextCell_15 (by decide) ?_
      refine jx_iaddE (z := nI (t + 1)) dX0_nextCell_16 (nI_add t 1) ?_
      refine jx_laldE (t + 1) dX0_nextCell_17 rfl (rfl) (by omega) (by omega) (hg (t + 1) (by omega) (by omega)) ?_
      refine jx_aload_n dX0_nextCell_18 rfl ?_
      refine jx_getR dX0_nextCell_19 flX0_19 rfl rfl (hR _ _ _ rfl) ?_
      refine jx_iload_n dX0_nextCell_22 rfl ?_
      refine jx_iconst (v := 1) dX0_nextCell_23 (by decide) ?_
      refine jx_iaddE (z := nI (t + 1)) dX0_nextCell_24 (nI_add t 1) ?_
      refine jx_laldE (t + 1) dX0_nextCell_25 rfl (rfl) (by omega) (by omega) (hP3 (t + 1) (by omega)) ?_
      refine jx_land dX0_nextCell_26 ?_
      refine jx_lconst (v := 1) dX0_nextCell_27 (by decide) ?_
      refine jx_iload_n dX0_nextCell_28 rfl ?_
      refine jx_lshl dX0_nextCell_29 ?_
      refine jx_land dX0_nextCell_30 ?_
      refine jx_lstore dX0_nextCell_31 (by decide) ?_
      rw [bs_1 (by omega), bs_and, bs_and]
      exact jx_ls (by exact ⟨rfl, rfl, rfl, rfl, rfl, trivial⟩) (key33 _ (fun q => by
        rw [decide_eq_true (show t + 1 ≤ last by omega), Bool.true_and]
        cases e : g (t + 1) q
        · rfl
        · rw [decide_eq_true (hgl _ _ e)]; rfl))
set_option maxHeartbeats 1000000 in
set_option maxRecDepth 20000 in
theorem tX0_trace (hW : jWok w l) (hR : RS R) {h : Nat} {T : Nat → Nat → Int32} {W H np len : Nat} (hC : CF I L R h T W H np len) {home pace : Nat} {m : Nat → Nat → Bool} (hP : Prep I L W H home pace m) (hp1 : 1 ≤ pace) (hp7 : pace ≤ 7) (hhm : home < W * H) {first last base a N : Nat} (hfl : first ≤ last) (hl : last < 96) (hs : sn W H pace m home first = last) (ha : a < 1008 ∨ 1042 < a) (hsa : shE a = (1, N)) (hN : base + 96 ≤ N) (hN2 : N < 65536) : jRv w l mX0_trace 3 [.ref 1040, .int (nI first), .int (nI last), .ref a, .int (nI base)] (n, shE, I, L, R) (fun t => ∃ M, t = (n, shE, flo I a (base + first) (fun k => nI (wW W H pace m (sn W H pace m) last first home k).1) (last - first + 1), M, R) ∧ ∀ b j, b ≠ 1044 → M b j = L b j) := by
  refine jRv_of hW (by decide) rfl (Nat.le_of_ble_eq_true rfl) ?_
  have hC0 := hC
  have hP0 := hP
  obtain ⟨⟨hh, hRi⟩, hI, hRI, -, -, -⟩ := hC
  have hT := RI.tq hRI
  have hwh : W * H ≤ 63 := Nat.mul_le_mul hT.1.2 hT.2.1.2
  obtain ⟨hP1, hP2, hP3⟩ := hP
  have halt : ∀ (J : Nat → Nat → Int32) (M : Nat → Nat → Int64), (∀ b j, b ≠ a → J b j = I b j) → (∀ b j, b ≠ 1044 → M b j = L b j) → CF J M R h T W H np len ∧ Prep J M W H home pace m := fun J M hJ hM => ⟨CF_o hC0 (fun b j h1 h2 _ _ _ => hJ b j (by omega)) (fun b j h1 h2 => hM b j (by omega)), (hJ 1040 7 (by omega)).trans hP1, (hJ 1040 8 (by omega)).trans hP2, fun t ht => (hM 1043 t (by decide)).trans (hP3 t ht)⟩
  have hQl : ∀ k t' c, QB W H pace m last k t' c = true → c < W * H := fun k t' c h => QB_lt hl (fun _ _ _ => trivial) k h
  have key95 : ∀ M : Nat → Nat → Int64, (∀ b j, b ≠ 1044 → M b j = L b j) → (∀ t', first ≤ t' → t' ≤ last → M 1044 t' = bs (QB W H pace m last (last - first) t')) → ∀ k, k ≤ last - first → (wW W H pace m (sn W H pace m) last first home k).1 < W * H → first + k ≤ (wW W H pace m (sn W H pace m) last first home k).2 → (wW W H pace m (sn W H pace m) last first home k).2 ≤ last → sn W H pace m (wW W H pace m (sn W H pace m) last first home k).1 (wW W H pace m (sn W H pace m) last first home k).2 = last → jWP w l mX0_trace 3 0 0 (fun v t => v = none ∧ ∃ M, t = (n, shE, flo I a (base + first) (fun k => nI (wW W H pace m (sn W H pace m) last first home k).1) (last - first + 1), M, R) ∧ ∀ b j, b ≠ 1044 → M b j = L b j) (fun _ _ => False) 95 [(0, .ref 1040), (1, .int (nI first)), (2, .int (nI last)), (3, .ref a), (4, .int (nI base)), (5, .int (nI (wW W H pace m (sn W H pace m) last first home k).1)), (6, .int (nI (wW W H pace m (sn W H pace m) last first home k).2)), (7, .int (nI (first + k + 1)))] [] (n, shE, flo I a (base + first) (fun k => nI (wW W H pace m (sn W H pace m) last first home k).1) (k + 1), M, R) := by
    intro M hM hQ
    refine jdown _ (fun k hk ih => ?_)
    intro h1 h2 h3 h4
    obtain ⟨hC1, hPr1⟩ := halt (flo I a (base + first) (fun k => nI (wW W H pace m (sn W H pace m) last first home k).1) (k + 1)) M (fun b j hb => flo_ne hb) hM
    have hsuc : wW W H pace m (sn W H pace m) last first home (k + 1) = if (wW W H pace m (sn W H pace m) last first home k).2 < first + k + 1 then ((nxU W H pace m (sn W H pace m) (wW W H pace m (sn W H pace m) last first home k).1 (first + k) last 4).getD 0, if (nxU W H pace m (sn W H pace m) (wW W H pace m (sn W H pace m) last first home k).1 (first + k) last 4).getD 0 = (wW W H pace m (sn W H pace m) last first home k).1 then first + k + 1 else first + k + pace) else wW W H pace m (sn W H pace m) last first home k := rfl
    generalize hcc : (wW W H pace m (sn W H pace m) last first home k).1 = c at h1 h4 hsuc ⊢
    generalize hee : (wW W H pace m (sn W H pace m) last first home k).2 = e at h2 h3 h4 hsuc ⊢
    refine jx_iload dX0_trace_95 rfl ?_
    refine jx_iload_n dX0_trace_97 rfl ?_
    refine jx_icmpN_gt (a := (first + k + 1)) (b := last) 163 dX0_trace_98 (by decide) (by omega) (by omega) (fun h98 => ?_) (fun h98 => ?_)
    · refine jx_vret dX0_trace_163 rfl ?_
      have hkk : k = last - first := by omega
      subst hkk
      exact ⟨rfl, M, rfl, hM⟩
    · refine jx_iload dX0_trace_101 rfl ?_
      refine jx_iload dX0_trace_103 rfl ?_
      refine jx_icmpN_le (a := (first + k + 1)) (b := e) 148 dX0_trace_105 (by decide) (by omega) (by omega) (fun h105 => ?_) (fun h105 => ?_)
      · skip
        refine jx_aload_n dX0_trace_148 rfl ?_
        refine jx_iload dX0_trace_149 rfl ?_
        refine jx_iload dX0_trace_151 rfl ?_
        refine jx_iaddE (z := nI (base + (first + k + 1))) dX0_trace_153 (nI_add base (first + k + 1)) ?_
        refine jx_iload dX0_trace_154 rfl ?_
        refine jx_iastN (base + (first + k + 1)) dX0_trace_156 hsa (rfl) (by omega) (by omega) ?_
        refine jx_iinc dX0_trace_157 rfl (v := nI ((first + k + 1) + 1)) (nI_1 _) (by decide) ?_
        refine jx_goto 95 dX0_trace_160 (by decide) ?_
        have hsk : wW W H pace m (sn W H pace m) last first home (k + 1) = wW W H pace m (sn W H pace m) last first home k := by rw [hsuc, if_neg (by omega)]
        have kk := ih (by omega) (by rw [hsk, hcc]; exact h1) (by rw [hsk, hee]; omega) (by rw [hsk, hee]; exact h3) (by rw [hsk, hcc, hee]; exact h4)
        have hfl2 := flo_s I a (base + first) (fun k => nI (wW W H pace m (sn W H pace m) last first home k).1) (k + 1)
        rw [hsk, hcc, hee] at kk
        have hv : nI (wW W H pace m (sn W H pace m) last first home (k + 1)).1 = nI c := by rw [hsk, hcc]
        rw [hv] at hfl2
        rw [show base + (first + k + 1) = base + first + (k + 1) by omega, hfl2]
        exact jx_ls (by exact ⟨rfl, rfl, rfl, rfl, rfl, rfl, rfl, rfl, trivial⟩) kk
      · have hk1 : k < last - first := by omega
        have hee2 : e = first + k := by omega
        subst hee2
        have hsc : sn W H pace m c (first + k) = last := h4
        obtain ⟨x, hx, hfx⟩ := ch_eq hT.1.1 hT.2.1.1 hwh hp1 hl h1 (by omega) hsc (g := QB W H pace m last (last - first)) (fun t' q z1 z2 => QB_ge q (k := last - (first + k)) (j := last - first) (by omega) (by omega) (by omega))
        have hcd := nxU_cand hT.1.1 4 (by omega) x hx
        have hxl : x < W * H := by
          rcases hcd with ⟨rfl, -⟩ | ⟨w, hw, z, -⟩
          · exact h1
          · exact nbr_lt hT.1.1 hT.2.1.1 h1 z
        have hxs1 : x = c → sn W H pace m x (first + k + 1) = last := fun z => by
          rcases hcd with ⟨rfl, -, -, z2⟩ | ⟨w, hw, z1, -⟩
          · exact z2
          · exact absurd z1 (z ▸ nbr_ne hT.1.1)
        have hxs2 : ¬ x = c → first + k + pace ≤ last ∧ sn W H pace m x (first + k + pace) = last := fun z => by
          rcases hcd with ⟨z1, -⟩ | ⟨w, hw, z1, z2, z3⟩
          · exact absurd z1 z
          · have := sn_ge (W := W) (H := H) hp1 (m := m) _ x (first + k + pace) (stp_to z2).1 rfl
            exact ⟨by omega, z3⟩
        refine jx_aload_n dX0_trace_108 rfl ?_
        refine jx_iload dX0_trace_109 rfl ?_
        refine jx_iload dX0_trace_111 rfl ?_
        refine jx_iconst (v := 1) dX0_trace_113 (by decide) ?_
        refine jx_isubE (z := nI (first + k)) dX0_trace_114 (pk_sub (a := first + k + 1) (b := 1) (by omega)) ?_
        refine jx_iload_n dX0_trace_115 rfl ?_
        refine jx_Vi (as := [.int _, .int _, .int _]) dX0_trace_116 mlX0_103 okX0_nextCell viX0_nextCell rfl rfl rfl rfl rfl (by decide) (Nat.le_of_ble_eq_true rfl) (tX0_nextCell hW hR hC1 hPr1 hp1 hp7 (t := first + k) (last := last) (c := c) (by omega) hl h1 (g := QB W H pace m last (last - first)) (fun t' z1 z2 => hQ t' (by omega) z2) (fun t' q z => hQl _ _ _ z)) ?_
        rw [hfx]
        show jWP _ _ _ _ _ _ _ _ _ _ (.int (nI x) :: _) _
        refine jx_istore dX0_trace_119 (by decide) ?_
        refine jx_iload dX0_trace_121 rfl ?_
        refine jx_iload dX0_trace_123 rfl ?_
        refine jx_icmpN_ne (a := x) (b := c) 133 dX0_trace_125 (by decide) (by omega) (by omega) (fun h125 => ?_) (fun h125 => ?_)
        · refine jx_iload dX0_trace_133 rfl ?_
          refine jx_iconst (v := 1) dX0_trace_135 (by decide) ?_
          refine jx_isubE (z := nI (first + k)) dX0_trace_136 (pk_sub (a := first + k + 1) (b := 1) (by omega)) ?_
          refine jx_aload_n dX0_trace_137 rfl ?_
          refine jx_getIE dX0_trace_138 flX0_106 rfl rfl (hPr1.2.1) ?_
          refine jx_iaddE (z := nI ((first + k) + pace)) dX0_trace_141 (nI_add (first + k) pace) ?_
          refine jx_istore dX0_trace_142 (by decide) ?_
          refine jx_iload dX0_trace_144 rfl ?_
          refine jx_istore dX0_trace_146 (by decide) ?_
          refine jx_aload_n dX0_trace_148 rfl ?_
          refine jx_iload dX0_trace_149 rfl ?_
          refine jx_iload dX0_trace_151 rfl ?_
          refine jx_iaddE (z := nI (base + (first + k + 1))) dX0_trace_153 (nI_add base (first + k + 1)) ?_
          refine jx_iload dX0_trace_154 rfl ?_
          refine jx_iastN (base + (first + k + 1)) dX0_trace_156 hsa (rfl) (by omega) (by omega) ?_
          refine jx_iinc dX0_trace_157 rfl (v := nI ((first + k + 1) + 1)) (nI_1 _) (by decide) ?_
          refine jx_goto 95 dX0_trace_160 (by decide) ?_
          have hsk : wW W H pace m (sn W H pace m) last first home (k + 1) = (x, first + k + pace) := by rw [hsuc, if_pos (by omega), hx]; show (x, _) = _; rw [show ((some x).getD 0) = x from rfl, if_neg h125]
          have kk := ih hk1 (by rw [hsk]; exact hxl) (by rw [hsk]; show _ ≤ first + k + pace; omega) (by rw [hsk]; show first + k + pace ≤ last; exact (hxs2 h125).1) (by rw [hsk]; show sn W H pace m x (first + k + pace) = last; exact (hxs2 h125).2)
          have hfl2 := flo_s I a (base + first) (fun k => nI (wW W H pace m (sn W H pace m) last first home k).1) (k + 1)
          rw [hsk] at kk
          have hv : nI (wW W H pace m (sn W H pace m) last first home (k + 1)).1 = nI x := by rw [hsk]
          rw [hv] at hfl2
          rw [show base + (first + k + 1) = base + first + (k + 1) by omega, hfl2]
          exact jx_ls (by exact ⟨rfl, rfl, rfl, rfl, rfl, rfl, rfl, rfl, trivial⟩) kk
        · skip
          refine jx_iload dX0_trace_128 rfl ?_
          refine jx_goto 142 dX0_trace_130 (by decide) ?_
          refine jx_istore dX0_trace_142 (by decide) ?_
          refine jx_iload dX0_trace_144 rfl ?_
          refine jx_istore dX0_trace_146 (by decide) ?_
          refine jx_aload_n dX0_trace_148 rfl ?_
          refine jx_iload dX0_trace_149 rfl ?_
          refine jx_iload dX0_trace_151 rfl ?_
          refine jx_iaddE (z := nI (base + (first + k + 1))) dX0_trace_153 (nI_add base (first + k + 1)) ?_
          refine jx_iload dX0_trace_154 rfl ?_
          refine jx_iastN (base + (first + k + 1)) dX0_trace_156 hsa (rfl) (by omega) (by omega) ?_
          refine jx_iinc dX0_trace_157 rfl (v := nI ((first + k + 1) + 1)) (nI_1 _) (by decide) ?_
          refine jx_goto 95 dX0_trace_160 (by decide) ?_
          have hsk : wW W H pace m (sn W H pace m) last first home (k + 1) = (x, first + k + 1) := by rw [hsuc, if_pos (by omega), hx]; show (x, _) = _; rw [show ((some x).getD 0) = x from rfl, if_pos h125]
          have kk := ih hk1 (by rw [hsk]; exact hxl) (by rw [hsk]; show _ ≤ first + k + 1; omega) (by rw [hsk]; show first + k + 1 ≤ last; omega) (by rw [hsk]; show sn W H pace m x (first + k + 1) = last; exact hxs1 h125)
          have hfl2 := flo_s I a (base + first) (fun k => nI (wW W H pace m (sn W H pace m) last first home k).1) (k + 1)
          rw [hsk] at kk
          have hv : nI (wW W H pace m (sn W H pace m) last first home (k + 1)).1 = nI x := by rw [hsk]
          rw [hv] at hfl2
          rw [show base + (first + k + 1) = base + first + (k + 1) by omega, hfl2]
          exact jx_ls (by exact ⟨rfl, rfl, rfl, rfl, rfl, rfl, rfl, rfl, trivial⟩) kk
  have key47 : ∀ k, first ≤ k → k ≤ last → ∀ M : Nat → Nat → Int64, (∀ b j, b ≠ 1044 → M b j = L b j) → (∀ t', k ≤ t' → t' ≤ last → M 1044 t' = bs (QB W H pace m last (last - k) t')) → jWP w l mX0_trace 3 0 0 (fun v t => v = none ∧ ∃ M, t = (n, shE, flo I a (base + first) (fun k => nI (wW W H pace m (sn W H pace m) last first home k).1) (last - first + 1), M, R) ∧ ∀ b j, b ≠ 1044 → M b j = L b j) (fun _ _ => False) 47 [(0, .ref 1040), (1, .int (nI first)), (2, .int (nI last)), (3, .ref a), (4, .int (nI base)), (5, .int (nI k - 1))] [] (n, shE, I, M, R) := by
    intro k
    induction k with
    | zero =>
      intro h1 h2 M hM hQ
      have hf0 : first = 0 := by omega
      subst hf0
      refine jx_iload dX0_trace_47 rfl ?_
      refine jx_iload_n dX0_trace_49 rfl ?_
      refine jx_icmp_lt 73 dX0_trace_50 (by decide) (fun h50 => ?_) (fun h50 => ?_)
      · refine jx_aload_n dX0_trace_73 rfl ?_
        refine jx_getIE dX0_trace_74 flX0_100 rfl rfl (hP1) ?_
        refine jx_istore dX0_trace_77 (by decide) ?_
        refine jx_iload_n dX0_trace_79 rfl ?_
        refine jx_istore dX0_trace_80 (by decide) ?_
        refine jx_aload_n dX0_trace_82 rfl ?_
        refine jx_iload dX0_trace_83 rfl ?_
        refine jx_iload_n dX0_trace_85 rfl ?_
        refine jx_iaddE (z := nI (base + 0)) dX0_trace_86 (nI_add base 0) ?_
        refine jx_iload dX0_trace_87 rfl ?_
        refine jx_iastN (base + 0) dX0_trace_89 hsa (rfl) (by omega) (by omega) ?_
        refine jx_iload_n dX0_trace_90 rfl ?_
        refine jx_iconst (v := 1) dX0_trace_91 (by decide) ?_
        refine jx_iaddE (z := nI (1)) dX0_trace_92 (nI_add 0 1) ?_
        refine jx_istore dX0_trace_93 (by decide) ?_
        have e0 : flo I a (base + 0) (fun k => nI (wW W H pace m (sn W H pace m) last 0 home k).1) 1 = upI I a (base + 0) (nI home) := by
          have := flo_s I a (base + 0) (fun k => nI (wW W H pace m (sn W H pace m) last 0 home k).1) 0
          rw [flo_0] at this
          exact this.symm
        have kk := key95 M hM hQ 0 (by omega) hhm (Nat.le_refl _) hfl hs
        rw [show (0 + 1) = 1 from rfl, e0] at kk
        exact jx_ls (by exact ⟨rfl, rfl, rfl, rfl, rfl, rfl, rfl, rfl, trivial⟩) kk
      · exact absurd (by decide) h50
    | succ k ih =>
      intro h1 h2 M hM hQ
      have ek : nI (k + 1) - 1 = nI k := by rw [← nI_add, show nI 1 = (1 : Int32) from rfl, Int32.add_sub_cancel]
      obtain ⟨hC1, hPr1⟩ := halt I M (fun _ _ _ => rfl) hM
      by_cases hkf : first = k + 1
      · rw [ek]
        refine jx_iload dX0_trace_47 rfl ?_
        refine jx_iload_n dX0_trace_49 rfl ?_
        refine jx_icmpN_lt (a := k) (b := first) 73 dX0_trace_50 (by decide) (by omega) (by omega) (fun h50 => ?_) (fun h50 => ?_)
        · rw [← hkf] at hQ
          refine jx_aload_n dX0_trace_73 rfl ?_
          refine jx_getIE dX0_trace_74 flX0_100 rfl rfl (hP1) ?_
          refine jx_istore dX0_trace_77 (by decide) ?_
          refine jx_iload_n dX0_trace_79 rfl ?_
          refine jx_istore dX0_trace_80 (by decide) ?_
          refine jx_aload_n dX0_trace_82 rfl ?_
          refine jx_iload dX0_trace_83 rfl ?_
          refine jx_iload_n dX0_trace_85 rfl ?_
          refine jx_iaddE (z := nI (base + first)) dX0_trace_86 (nI_add base first) ?_
          refine jx_iload dX0_trace_87 rfl ?_
          refine jx_iastN (base + first) dX0_trace_89 hsa (rfl) (by omega) (by omega) ?_
          refine jx_iload_n dX0_trace_90 rfl ?_
          refine jx_iconst (v := 1) dX0_trace_91 (by decide) ?_
          refine jx_iaddE (z := nI (first + 1)) dX0_trace_92 (nI_add first 1) ?_
          refine jx_istore dX0_trace_93 (by decide) ?_
          have e0 : flo I a (base + first) (fun k => nI (wW W H pace m (sn W H pace m) last first home k).1) 1 = upI I a (base + first) (nI home) := by
            have := flo_s I a (base + first) (fun k => nI (wW W H pace m (sn W H pace m) last first home k).1) 0
            rw [flo_0] at this
            exact this.symm
          have kk := key95 M hM hQ 0 (by omega) hhm (Nat.le_refl _) hfl hs
          rw [show (0 + 1) = 1 from rfl, e0] at kk
          exact jx_ls (by exact ⟨rfl, rfl, rfl, rfl, rfl, rfl, rfl, rfl, trivial⟩) kk
        · exact absurd h50 (by omega)
      · rw [ek]
        refine jx_iload dX0_trace_47 rfl ?_
        refine jx_iload_n dX0_trace_49 rfl ?_
        refine jx_icmpN_lt (a := k) (b := first) 73 dX0_trace_50 (by decide) (by omega) (by omega) (fun h50 => ?_) (fun h50 => ?_)
        · exact absurd h50 (by omega)
        · refine jx_aload_n dX0_trace_53 rfl ?_
          refine jx_getR dX0_trace_54 flX0_23 rfl rfl (hR _ _ _ rfl) ?_
          refine jx_iload dX0_trace_57 rfl ?_
          refine jx_aload_n dX0_trace_59 rfl ?_
          refine jx_iload dX0_trace_60 rfl ?_
          refine jx_iload_n dX0_trace_62 rfl ?_
          refine jx_Vl (as := [.int _, .int _]) dX0_trace_63 mlX0_96 okX0_cellsBefore viX0_cellsBefore rfl rfl rfl rfl rfl (by decide) (Nat.le_of_ble_eq_true rfl) (tX0_cellsBefore hW hR hC1 hPr1 hp1 hp7 (t := k) (last := last) (by omega) hl (g := QB W H pace m last (last - (k + 1))) (fun t' z1 z2 => hQ t' (by omega) z2) (fun t' q z => hQl _ _ _ z)) ?_
          refine jx_lastN (k) dX0_trace_66 rfl (rfl) (by omega) (by omega) ?_
          refine jx_iinc dX0_trace_67 rfl (v := nI k - 1) (by rw [Int32.sub_eq_add_neg]; rfl) (by decide) ?_
          refine jx_goto 47 dX0_trace_70 (by decide) ?_
          refine jx_ls (by exact ⟨rfl, rfl, rfl, rfl, rfl, rfl, trivial⟩) (ih (by omega) (by omega) _ (fun b j hb => (upL_nea hb).trans (hM b j hb)) (fun t' z1 z2 => ?_))
          have hsk : last - k = (last - (k + 1)) + 1 := by omega
          by_cases z : t' = k
          · rw [z, upL_same, hsk]
            refine bs_c (fun q _ => ?_)
            rw [QB, if_pos (by omega)]
          · rw [upL_ne (fun q => z q.2), hQ t' (by omega) z2, hsk]
            refine bs_c (fun q _ => ?_)
            rw [QB, if_neg (by omega)]
  rcases hh with rfl | rfl
  all_goals
    refine jx_iload_n dX0_trace_0 rfl ?_
    refine jx_ifN_lt (a := first) 25 dX0_trace_1 (by decide) (by omega) ?_
    refine jx_iload_n dX0_trace_4 rfl ?_
    refine jx_bipush (v := 96) dX0_trace_5 (by decide) ?_
    refine jx_icmpN_ge (a := last) (b := 96) 25 dX0_trace_7 (by decide) (by omega) (by omega) (fun h7 => ?_) (fun h7 => ?_)
    · exact absurd h7 (by omega)
    · refine jx_iload dX0_trace_10 rfl ?_
      refine jx_ifN_lt (a := base) 25 dX0_trace_12 (by decide) (by omega) ?_
      refine jx_iload dX0_trace_15 rfl ?_
      refine jx_bipush (v := 96) dX0_trace_17 (by decide) ?_
      refine jx_iaddE (z := nI (base + 96)) dX0_trace_19 (nI_add base 96) ?_
      refine jx_aload_n dX0_trace_20 rfl ?_
      refine jx_alen dX0_trace_21 hsa (by decide) (by decide) ?_
      refine jx_icmpN_le (a := (base + 96)) (b := N) 26 dX0_trace_22 (by decide) (by omega) (by omega) (fun h22 => ?_) (fun h22 => ?_)
      · refine jx_aload_n dX0_trace_26 rfl ?_
        refine jx_getR dX0_trace_27 flX0_23 rfl rfl (hR _ _ _ rfl) ?_
        refine jx_iload_n dX0_trace_30 rfl ?_
        refine jx_aload_n dX0_trace_31 rfl ?_
        refine jx_getR dX0_trace_32 flX0_29 rfl rfl hRi ?_
        refine jx_getR dX0_trace_35 flX0_87 rfl rfl (hR _ _ _ rfl) ?_
        refine jx_getLE dX0_trace_38 flX0_91 rfl rfl (hI.1.2.2.2.2.2.1.2.2) ?_
        refine jx_lastN (last) dX0_trace_41 rfl (rfl) (by omega) (by omega) ?_
        refine jx_iload_n dX0_trace_42 rfl ?_
        refine jx_iconst (v := 1) dX0_trace_43 (by decide) ?_
        refine jx_isub dX0_trace_44 ?_
        refine jx_istore dX0_trace_45 (by decide) ?_
        exact jx_ls (by exact ⟨rfl, rfl, rfl, rfl, rfl, rfl, trivial⟩) (key47 last hfl (Nat.le_refl _) _ (fun b j hb => upL_nea hb) (fun t' z1 z2 => by
          have e : t' = last := by omega
          subst e
          rw [upL_same, Nat.sub_self]
          rfl))
      · exact absurd h22 (by omega)
end CH1
