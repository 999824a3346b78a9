/-! THE CLASS: whom to leave; counts; feeding -/
theorem sub_eq : ∀ s, s < 64 → ∀ t, t < 64 → s &&& t = s → pc6 t ≤ pc6 s → s = t := by decide +kernel
theorem sub_le : ∀ s, s < 64 → ∀ t, t < 64 → s &&& t = s → pc6 s ≤ pc6 t := by decide +kernel
theorem nl_0 : ∀ s, s < 64 → ∀ t, t < 64 → (s &&& (63 - t) = 0 ↔ s &&& t = s) := by decide +kernel
def vld (T : Nat → Nat → Int32) (W b day there s : Nat) : Prop := s &&& there = s ∧ crw T W b day s = none
theorem lvN_ok {T : Nat → Nat → Int32} {W b day there : Nat} : ∀ m, (lvN T W b day there m = there ∧ ∀ s, s < m → vld T W b day there s → pc6 there ≤ pc6 s) ∨ (lvN T W b day there m < m ∧ vld T W b day there (lvN T W b day there m) ∧ pc6 (lvN T W b day there m) < pc6 there ∧ ∀ s, s < m → vld T W b day there s → pc6 (lvN T W b day there m) < pc6 s ∨ (pc6 (lvN T W b day there m) = pc6 s ∧ lvN T W b day there m ≤ s))
  | 0 => Or.inl ⟨rfl, fun s hs => absurd hs (by omega)⟩
  | m + 1 => by
    have ev : lvN T W b day there (m + 1) = if m &&& there = m ∧ pc6 m < pc6 (lvN T W b day there m) ∧ crw T W b day m = none then m else lvN T W b day there m := rfl
    have ih := lvN_ok (T := T) (W := W) (b := b) (day := day) (there := there) m
    by_cases c : m &&& there = m ∧ pc6 m < pc6 (lvN T W b day there m) ∧ crw T W b day m = none
    · rw [ev, if_pos c]
      refine Or.inr ⟨by omega, ⟨c.1, c.2.2⟩, ?_, fun s hs hv => ?_⟩
      · rcases ih with ⟨h1, h2⟩ | ⟨h1, h2, h3, h4⟩
        · rw [h1] at c; exact c.2.1
        · have := c.2.1; omega
      · by_cases z : s = m
        · rw [z]; exact Or.inr ⟨rfl, Nat.le_refl _⟩
        · left
          have c2 := c.2.1
          rcases ih with ⟨h1, h2⟩ | ⟨h1, h2, h3, h4⟩
          · rw [h1] at c2; have := h2 s (by omega) hv; omega
          · rcases h4 s (by omega) hv with q | q <;> omega
    · rw [ev, if_neg c]
      rcases ih with ⟨h1, h2⟩ | ⟨h1, h2, h3, h4⟩
      · refine Or.inl ⟨h1, fun s hs hv => ?_⟩
        by_cases z : s = m
        · subst z
          apply Classical.byContradiction
          intro q
          exact c ⟨hv.1, by rw [h1]; omega, hv.2⟩
        · exact h2 s (by omega) hv
      · refine Or.inr ⟨by omega, h2, h3, fun s hs hv => ?_⟩
        by_cases z : s = m
        · subst z
          by_cases q : pc6 (lvN T W b day there s) < pc6 s
          · exact Or.inl q
          · right
            have : ¬ pc6 s < pc6 (lvN T W b day there s) := fun y => c ⟨hv.1, y, hv.2⟩
            exact ⟨by omega, by omega⟩
        · exact h4 s (by omega) hv
theorem lv_found {T : Nat → Nat → Int32} {W b day there s : Nat} (ht : there < 64) (hs : s < 64) (hv : vld T W b day there s) (h1 : ∀ u, u < 64 → vld T W b day there u → pc6 s ≤ pc6 u) (h2 : ∀ u, u < s → vld T W b day there u → pc6 u ≠ pc6 s) : lvN T W b day there 64 = s := by
  have hle := sub_le s hs there ht hv.1
  rcases lvN_ok (T := T) (W := W) (b := b) (day := day) (there := there) 64 with ⟨g1, g2⟩ | ⟨g1, g2, g3, g4⟩
  · rw [g1]
    exact (sub_eq s hs there ht hv.1 (g2 s hs hv)).symm
  · have a1 := h1 _ g1 g2
    rcases g4 s hs hv with q | ⟨q, q2⟩
    · omega
    · apply Classical.byContradiction
      intro z
      exact h2 _ (by omega) g2 q
theorem lv_none {T : Nat → Nat → Int32} {W b day there : Nat} (h : ∀ u, u < 64 → ¬ vld T W b day there u) : lvN T W b day there 64 = there := by
  rcases lvN_ok (T := T) (W := W) (b := b) (day := day) (there := there) 64 with ⟨g1, -⟩ | ⟨g1, g2, -⟩
  · exact g1
  · exact absurd g2 (h _ g1)
section CX1
variable {w : jWD} {l : Launch} {n : Nat} {I : Nat → Nat → Int32} {L : Nat → Nat → Int64} {R : Nat → Nat → Option Nat}

set_option maxHeartbeats 1000000 in
set_option maxRecDepth 20000 in
theorem tX10_leave (hW : jWok w l) (hR : RS R) {h : Nat} {T : Nat → Nat → Int32} {W H np len : Nat} (hX : CX I L R h T W H np len) {b : Nat} (hB : LBk I T W H np b) (hx : ∀ c, c < W * H → T 1074 c ≠ 0 → c % W ≠ 0 ∧ c % W ≠ W - 1) {day : Nat} (hd : day ≤ 40) : jCD w l mX10_leave 3 [.ref 1000, .int (nI day)] (n, shE, I, L, R) (some (.int (nI (lvN T W b day (thr T day b) 64)))) (n, shE, I, L, R) := by
  refine jCD_of hW (by decide) rfl (Nat.le_of_ble_eq_true rfl) ?_
  obtain ⟨⟨⟨hh, hRi⟩, hI, hRI, -, -, -⟩, hRh⟩ := hX
  have hT := RI.tq hRI
  have hw := hT.1
  have hhh := hT.2.1
  have hwh : W * H ≤ 63 := Nat.mul_le_mul hw.2 hhh.2
  have hn6 := hRI.2.2.2.2.1.2
  have htl := thr_lt hB.2.1 hn6 day b (Nat.le_refl _)
  have key : ∀ z, z ≤ 7 → (∀ u, u < 64 → vld T W b day (thr T day b) u → z ≤ pc6 u) → jWP w l mX10_leave 3 0 0 (fun r t => r = some (.int (nI (lvN T W b day (thr T day b) 64))) ∧ t = (n, shE, I, L, R)) (fun _ _ => False) 16 [(0, .ref 1000), (1, .int (nI day)), (2, .int (nI (thr T day b))), (3, .int (nI z))] [] (n, shE, I, L, R) := by
    refine jdown _ (fun z hz ih hno => ?_)
    have keys : z < 7 → ∀ s, s ≤ 64 → (∀ u, u < s → vld T W b day (thr T day b) u → pc6 u ≠ z) → jWP w l mX10_leave 3 0 0 (fun r t => r = some (.int (nI (lvN T W b day (thr T day b) 64))) ∧ t = (n, shE, I, L, R)) (fun _ _ => False) 25 [(0, .ref 1000), (1, .int (nI day)), (2, .int (nI (thr T day b))), (3, .int (nI z)), (4, .int (nI s))] [] (n, shE, I, L, R) := by
      intro hz7
      refine jdown _ (fun s hs ihs hus => ?_)
      rcases hh with rfl | rfl
      all_goals
      refine jx_iload dX10_leave_25 rfl ?_
      refine jx_bipush (v := 64) dX10_leave_27 (by decide) ?_
      refine jx_icmpN_ge (a := s) (b := 64) 83 dX10_leave_29 (by decide) (by omega) (by omega) (fun h29 => ?_) (fun h29 => ?_)
      · refine jx_iinc dX10_leave_83 rfl (v := nI (z + 1)) (nI_1 _) (by decide) ?_
        refine jx_goto 16 dX10_leave_86 (by decide) ?_
        have hs64 : s = 64 := by omega
        subst hs64
        exact jx_ls (by exact ⟨rfl, rfl, rfl, rfl, trivial⟩) (ih hz7 (fun u hu hv => by
          have a1 := hno u hu hv
          have a2 := hus u hu hv
          omega))
      · have h29 : s < 64 := by omega
        have hpl := pc6_le s
        have hnl := (nl_and s h29 _ htl).2
        refine jx_iload dX10_leave_32 rfl ?_
        refine jx_Si (as := [.int _]) dX10_leave_34 mlX10_298 okJ6_bitCount_0f7a4 stJ6_bitCount_0f7a4 rfl rfl (by decide) (Nat.le_of_ble_eq_true rfl) (tJ6_bitCount hW h29 _) ?_
        refine jx_iload_n dX10_leave_37 rfl ?_
        refine jx_icmpN_ne (a := (pc6 s)) (b := z) 77 dX10_leave_38 (by decide) (by omega) (by omega) (fun h38 => ?_) (fun h38 => ?_)
        · refine jx_iinc dX10_leave_77 rfl (v := nI (s + 1)) (nI_1 _) (by decide) ?_
          refine jx_goto 25 dX10_leave_80 (by decide) ?_
          exact jx_ls (by exact ⟨rfl, rfl, rfl, rfl, rfl, trivial⟩) (ihs h29 (fun u hu hv => by
            by_cases e : u = s
            · subst e
              first
                | exact h38
                | exact absurd ((nl_0 u h29 _ htl).mpr hv.1) h47
                | exact absurd (by rw [hv.2]; rfl) h71
            · exact hus u (by omega) hv))
        · refine jx_iload dX10_leave_41 rfl ?_
          refine jx_iload_n dX10_leave_43 rfl ?_
          refine jx_iconst (v := -1) dX10_leave_44 (by decide) ?_
          refine jx_ixorE (z := nI (thr T day b) ^^^ (-1)) dX10_leave_45 (rfl) ?_
          refine jx_iandE (z := nI (s &&& (63 - (thr T day b)))) dX10_leave_46 ((nl_and s h29 _ htl).1) ?_
          refine jx_ifN_ne (a := (s &&& (63 - (thr T day b)))) 77 dX10_leave_47 (by decide) (by omega) (fun h47 => ?_) (fun h47 => ?_)
          · refine jx_iinc dX10_leave_77 rfl (v := nI (s + 1)) (nI_1 _) (by decide) ?_
            refine jx_goto 25 dX10_leave_80 (by decide) ?_
            exact jx_ls (by exact ⟨rfl, rfl, rfl, rfl, rfl, trivial⟩) (ihs h29 (fun u hu hv => by
              by_cases e : u = s
              · subst e
                first
                  | exact h38
                  | exact absurd ((nl_0 u h29 _ htl).mpr hv.1) h47
                  | exact absurd (by rw [hv.2]; rfl) h71
              · exact hus u (by omega) hv))
          · refine jx_aload_n dX10_leave_50 rfl ?_
            refine jx_getR dX10_leave_51 flX10_60 rfl rfl (hR _ _ _ rfl) ?_
            refine jx_iload_n dX10_leave_54 rfl ?_
            refine jx_aload_n dX10_leave_55 rfl ?_
            refine jx_getR dX10_leave_56 flX10_32 rfl rfl hRh ?_
            refine jx_getR dX10_leave_59 flX10_114 rfl rfl (hR _ _ _ rfl) ?_
            refine jx_getLE dX10_leave_62 flX10_288 rfl rfl (hI.1.2.2.2.2.1.2) ?_
            refine jx_iload dX10_leave_65 rfl ?_
            refine jx_Vi (as := [.int _, .long _, .int _]) dX10_leave_67 mlX10_291 okX2_firstCrowd viX2_firstCrowd rfl rfl rfl rfl rfl (by decide) (Nat.le_of_ble_eq_true rfl) (tX2_firstCrowd hW hR hB hwh hn6 (fun c hc => (hRI.2.1 c hc).2) hx hd h29) ?_
            refine jx_iconst (v := -1) dX10_leave_70 (by decide) ?_
            refine jx_icmp_ne 77 dX10_leave_71 (by decide) (fun h71 => ?_) (fun h71 => ?_)
            · refine jx_iinc dX10_leave_77 rfl (v := nI (s + 1)) (nI_1 _) (by decide) ?_
              refine jx_goto 25 dX10_leave_80 (by decide) ?_
              exact jx_ls (by exact ⟨rfl, rfl, rfl, rfl, rfl, trivial⟩) (ihs h29 (fun u hu hv => by
                by_cases e : u = s
                · subst e
                  first
                    | exact h38
                    | exact absurd ((nl_0 u h29 _ htl).mpr hv.1) h47
                    | exact absurd (by rw [hv.2]; rfl) h71
                · exact hus u (by omega) hv))
            · refine jx_iload dX10_leave_74 rfl ?_
              refine jx_iret dX10_leave_76 rfl ?_
              refine ⟨?_, rfl⟩
              have hcr : crw T W b day s = none := by
                cases e : crw T W b day s with
                | none => rfl
                | some t =>
                  exfalso
                  rw [e] at h71
                  have ht := fnd_lt e
                  have q2 := congrArg Int32.toInt (show nI t = -1 from h71)
                  rw [nI_toInt (by omega)] at q2
                  have : (-1 : Int32).toInt = -1 := by decide
                  omega
              have hv : vld T W b day (thr T day b) s := ⟨(nl_0 s h29 _ htl).mp h47, hcr⟩
              rw [lv_found htl h29 hv (fun u hu hvu => by rw [h38]; exact hno u hu hvu) (fun u hu hvu => by rw [h38]; exact hus u hu hvu)]
    refine jx_iload_n dX10_leave_16 rfl ?_
    refine jx_bipush (v := 6) dX10_leave_17 (by decide) ?_
    refine jx_icmpN_gt (a := z) (b := 6) 89 dX10_leave_19 (by decide) (by omega) (by omega) (fun h19 => ?_) (fun h19 => ?_)
    · refine jx_iload_n dX10_leave_89 rfl ?_
      refine jx_iret dX10_leave_90 rfl ?_
      refine ⟨?_, rfl⟩
      rw [lv_none (fun u hu hv => by
        have a1 := hno u hu hv
        have a2 := pc6_le u
        omega)]
    · refine jx_iconst (v := 0) dX10_leave_22 (by decide) ?_
      refine jx_istore dX10_leave_23 (by decide) ?_
      exact jx_ls (by exact ⟨rfl, rfl, rfl, rfl, rfl, trivial⟩) (keys (by omega) 0 (by omega) (fun u hu => absurd hu (by omega)))
  refine jx_aload_n dX10_leave_0 rfl ?_
  refine jx_iload_n dX10_leave_1 rfl ?_
  refine jx_Vv (as := [.int _]) dX10_leave_2 mlX10_170 okX10_needDay viX10_needDay rfl rfl rfl rfl rfl (by decide) (Nat.le_of_ble_eq_true rfl) (tX10_needDay hW hR (by omega)) ?_
  refine jx_aload_n dX10_leave_5 rfl ?_
  refine jx_getR dX10_leave_6 flX10_60 rfl rfl (hR _ _ _ rfl) ?_
  refine jx_iload_n dX10_leave_9 rfl ?_
  refine jx_Vi (as := [.int _]) dX10_leave_10 mlX10_295 okX2_partiesOn viX2_partiesOn rfl rfl rfl rfl rfl (by decide) (Nat.le_of_ble_eq_true rfl) (tX2_partiesOn hW hR hB hd hn6) ?_
  refine jx_istore_n dX10_leave_13 rfl (by decide) ?_
  refine jx_iconst (v := 0) dX10_leave_14 (by decide) ?_
  refine jx_istore_n dX10_leave_15 rfl (by decide) ?_
  exact jx_ls (by exact ⟨rfl, rfl, rfl, rfl, trivial⟩) (key 0 (by omega) (fun u _ _ => Nat.zero_le _))
set_option maxHeartbeats 1000000 in
set_option maxRecDepth 20000 in
theorem tX10_leaveF (hW : jWok w l) (hR : RS R) (day : Int32) (hbad : ¬ dayQ day = true) : jTh w l mX10_leave 3 [.ref 1000, .int day] n I L R eN := by
  refine jTh_of hW (by decide) rfl (Nat.le_of_ble_eq_true rfl) ?_
  refine jx_aload_n dX10_leave_0 rfl ?_
  refine jx_iload_n dX10_leave_1 rfl ?_
  exact jx_VT (as := [.int _]) dX10_leave_2 mlX10_170 okX10_needDay viX10_needDay rfl rfl rfl rfl rfl (by decide) (Nat.le_of_ble_eq_true rfl) (by decide) (by decide) (tX10_needDayF hW hR (fun z => hbad (decide_eq_true ⟨z.1, by omega⟩))) (fun E t h => h)
set_option maxHeartbeats 1000000 in
set_option maxRecDepth 20000 in
theorem tX10_count (hW : jWok w l) (hR : RS R) {h : Nat} {T : Nat → Nat → Int32} {W H np len : Nat} (hX : CX I L R h T W H np len) (hfd : I 1000 1 = T 1069 17) (hbk : I 1051 5 = T 1069 32) (hsk : I 1051 9 = T 1069 33) (hrf : ∀ k, k < 3 → I 1059 k = T 1083 k) (k : Int32) (hg : cntG k = true) : jCD w l mX10_count 1 [.ref 1000, .int k] (n, shE, I, L, R) (some (.int (cntV T (cN k)))) (n, shE, I, L, R) := by
  refine jCD_of hW (by decide) rfl (Nat.le_of_ble_eq_true rfl) ?_
  obtain ⟨⟨⟨hh, hRi⟩, hI, hRI, -, -, -⟩, hRh⟩ := hX
  have hM := hRI.1.1
  have hg := of_decide_eq_true hg
  have hk : ∃ v : Nat, k = nI v ∧ (v < 16 ∨ (20 ≤ v ∧ v < 24)) := ⟨cN k, nI_cN (by omega), by have e : (cN k : Int) = k.toInt := Int.toNat_of_nonneg (by omega); omega⟩
  obtain ⟨v, rfl, hv⟩ := hk
  rw [cN_nI (by omega)]
  have hv2 : v = 0 ∨ v = 1 ∨ v = 2 ∨ v = 3 ∨ v = 4 ∨ v = 5 ∨ v = 6 ∨ v = 7 ∨ v = 8 ∨ v = 9 ∨ v = 10 ∨ v = 11 ∨ v = 12 ∨ v = 13 ∨ v = 14 ∨ v = 15 ∨ v = 20 ∨ v = 21 ∨ v = 22 ∨ v = 23 := by omega
  rcases hh with rfl | rfl
  all_goals
    rcases hv2 with rfl | rfl | rfl | rfl | rfl | rfl | rfl | rfl | rfl | rfl | rfl | rfl | rfl | rfl | rfl | rfl | rfl | rfl | rfl | rfl
    · refine jx_iload_n dX10_count_0 rfl ?_
      refine jx_tsIn 112 dX10_count_1 (by decide) (by decide) rfl (by decide) ?_
      refine jx_aload_n dX10_count_112 rfl ?_
      refine jx_getR dX10_count_113 flX10_32 rfl rfl (by first | exact hRh | exact hR _ _ _ rfl) ?_
      refine jx_getR dX10_count_116 flX10_114 rfl rfl (by first | exact hRh | exact hR _ _ _ rfl) ?_
      refine jx_getIE dX10_count_119 flX10_118 rfl rfl (hI.1.1.1.trans hM.1.symm) ?_
      refine jx_iret dX10_count_122 rfl ?_
      exact ⟨rfl, rfl⟩
    · refine jx_iload_n dX10_count_0 rfl ?_
      refine jx_tsIn 123 dX10_count_1 (by decide) (by decide) rfl (by decide) ?_
      refine jx_aload_n dX10_count_123 rfl ?_
      refine jx_getR dX10_count_124 flX10_32 rfl rfl (by first | exact hRh | exact hR _ _ _ rfl) ?_
      refine jx_getR dX10_count_127 flX10_114 rfl rfl (by first | exact hRh | exact hR _ _ _ rfl) ?_
      refine jx_getIE dX10_count_130 flX10_123 rfl rfl (hI.1.1.2.trans hM.2.1.symm) ?_
      refine jx_iret dX10_count_133 rfl ?_
      exact ⟨rfl, rfl⟩
    · refine jx_iload_n dX10_count_0 rfl ?_
      refine jx_tsIn 134 dX10_count_1 (by decide) (by decide) rfl (by decide) ?_
      refine jx_aload_n dX10_count_134 rfl ?_
      refine jx_getR dX10_count_135 flX10_32 rfl rfl (by first | exact hRh | exact hR _ _ _ rfl) ?_
      refine jx_getR dX10_count_138 flX10_114 rfl rfl (by first | exact hRh | exact hR _ _ _ rfl) ?_
      refine jx_getIE dX10_count_141 flX10_126 rfl rfl (hI.1.2.2.1.1) ?_
      refine jx_iret dX10_count_144 rfl ?_
      exact ⟨rfl, rfl⟩
    · refine jx_iload_n dX10_count_0 rfl ?_
      refine jx_tsIn 145 dX10_count_1 (by decide) (by decide) rfl (by decide) ?_
      refine jx_aload_n dX10_count_145 rfl ?_
      refine jx_getR dX10_count_146 flX10_32 rfl rfl (by first | exact hRh | exact hR _ _ _ rfl) ?_
      refine jx_getR dX10_count_149 flX10_114 rfl rfl (by first | exact hRh | exact hR _ _ _ rfl) ?_
      refine jx_getIE dX10_count_152 flX10_129 rfl rfl (hI.1.2.2.2.1.1) ?_
      refine jx_iret dX10_count_155 rfl ?_
      exact ⟨rfl, rfl⟩
    · refine jx_iload_n dX10_count_0 rfl ?_
      refine jx_tsIn 156 dX10_count_1 (by decide) (by decide) rfl (by decide) ?_
      refine jx_aload_n dX10_count_156 rfl ?_
      refine jx_getR dX10_count_157 flX10_32 rfl rfl (by first | exact hRh | exact hR _ _ _ rfl) ?_
      refine jx_getR dX10_count_160 flX10_114 rfl rfl (by first | exact hRh | exact hR _ _ _ rfl) ?_
      refine jx_getIE dX10_count_163 flX10_132 rfl rfl (hI.1.2.2.2.1.2) ?_
      refine jx_iret dX10_count_166 rfl ?_
      exact ⟨rfl, rfl⟩
    · refine jx_iload_n dX10_count_0 rfl ?_
      refine jx_tsIn 167 dX10_count_1 (by decide) (by decide) rfl (by decide) ?_
      refine jx_aload_n dX10_count_167 rfl ?_
      refine jx_getR dX10_count_168 flX10_32 rfl rfl (by first | exact hRh | exact hR _ _ _ rfl) ?_
      refine jx_getIE dX10_count_171 flX10_135 rfl rfl (hI.2.2.2.1.2.1) ?_
      refine jx_iret dX10_count_174 rfl ?_
      exact ⟨rfl, rfl⟩
    · refine jx_iload_n dX10_count_0 rfl ?_
      refine jx_tsIn 175 dX10_count_1 (by decide) (by decide) rfl (by decide) ?_
      refine jx_aload_n dX10_count_175 rfl ?_
      refine jx_getR dX10_count_176 flX10_32 rfl rfl (by first | exact hRh | exact hR _ _ _ rfl) ?_
      refine jx_getIE dX10_count_179 flX10_138 rfl rfl (hI.2.2.2.1.2.2.1) ?_
      refine jx_iret dX10_count_182 rfl ?_
      exact ⟨rfl, rfl⟩
    · refine jx_iload_n dX10_count_0 rfl ?_
      refine jx_tsIn 183 dX10_count_1 (by decide) (by decide) rfl (by decide) ?_
      refine jx_aload_n dX10_count_183 rfl ?_
      refine jx_getR dX10_count_184 flX10_32 rfl rfl (by first | exact hRh | exact hR _ _ _ rfl) ?_
      refine jx_getIE dX10_count_187 flX10_141 rfl rfl (hI.2.2.2.1.2.2.2) ?_
      refine jx_iret dX10_count_190 rfl ?_
      exact ⟨rfl, rfl⟩
    · refine jx_iload_n dX10_count_0 rfl ?_
      refine jx_tsIn 191 dX10_count_1 (by decide) (by decide) rfl (by decide) ?_
      refine jx_aload_n dX10_count_191 rfl ?_
      refine jx_getR dX10_count_192 flX10_32 rfl rfl (by first | exact hRh | exact hR _ _ _ rfl) ?_
      refine jx_getIE dX10_count_195 flX10_144 rfl rfl (hI.2.2.1.1.trans hRI.2.2.2.2.1.1.symm) ?_
      refine jx_iret dX10_count_198 rfl ?_
      exact ⟨rfl, rfl⟩
    · refine jx_iload_n dX10_count_0 rfl ?_
      refine jx_tsIn 199 dX10_count_1 (by decide) (by decide) rfl (by decide) ?_
      refine jx_aload_n dX10_count_199 rfl ?_
      refine jx_getR dX10_count_200 flX10_32 rfl rfl (by first | exact hRh | exact hR _ _ _ rfl) ?_
      refine jx_getIE dX10_count_203 flX10_147 rfl rfl (hI.2.2.2.1.1) ?_
      refine jx_iret dX10_count_206 rfl ?_
      exact ⟨rfl, rfl⟩
    · refine jx_iload_n dX10_count_0 rfl ?_
      refine jx_tsIn 207 dX10_count_1 (by decide) (by decide) rfl (by decide) ?_
      refine jx_aload_n dX10_count_207 rfl ?_
      refine jx_getR dX10_count_208 flX10_60 rfl rfl (by first | exact hRh | exact hR _ _ _ rfl) ?_
      refine jx_getIE dX10_count_211 flX10_101 rfl rfl (hbk) ?_
      refine jx_iret dX10_count_214 rfl ?_
      exact ⟨rfl, rfl⟩
    · refine jx_iload_n dX10_count_0 rfl ?_
      refine jx_tsIn 215 dX10_count_1 (by decide) (by decide) rfl (by decide) ?_
      refine jx_aload_n dX10_count_215 rfl ?_
      refine jx_getR dX10_count_216 flX10_60 rfl rfl (by first | exact hRh | exact hR _ _ _ rfl) ?_
      refine jx_getIE dX10_count_219 flX10_104 rfl rfl (hsk) ?_
      refine jx_iret dX10_count_222 rfl ?_
      exact ⟨rfl, rfl⟩
    · refine jx_iload_n dX10_count_0 rfl ?_
      refine jx_tsIn 223 dX10_count_1 (by decide) (by decide) rfl (by decide) ?_
      refine jx_aload_n dX10_count_223 rfl ?_
      refine jx_getIE dX10_count_224 flX10_67 rfl rfl (hfd) ?_
      refine jx_iret dX10_count_227 rfl ?_
      exact ⟨rfl, rfl⟩
    · refine jx_iload_n dX10_count_0 rfl ?_
      refine jx_tsIn 228 dX10_count_1 (by decide) (by decide) rfl (by decide) ?_
      refine jx_aload_n dX10_count_228 rfl ?_
      refine jx_getR dX10_count_229 flX10_60 rfl rfl (by first | exact hRh | exact hR _ _ _ rfl) ?_
      refine jx_getR dX10_count_232 flX10_95 rfl rfl (by first | exact hRh | exact hR _ _ _ rfl) ?_
      refine jx_iconst (v := 0) dX10_count_235 (by decide) ?_
      refine jx_ialdE (0) dX10_count_236 rfl (rfl) (by omega) (by omega) (hrf 0 (by decide)) ?_
      refine jx_iret dX10_count_237 rfl ?_
      exact ⟨rfl, rfl⟩
    · refine jx_iload_n dX10_count_0 rfl ?_
      refine jx_tsIn 238 dX10_count_1 (by decide) (by decide) rfl (by decide) ?_
      refine jx_aload_n dX10_count_238 rfl ?_
      refine jx_getR dX10_count_239 flX10_60 rfl rfl (by first | exact hRh | exact hR _ _ _ rfl) ?_
      refine jx_getR dX10_count_242 flX10_95 rfl rfl (by first | exact hRh | exact hR _ _ _ rfl) ?_
      refine jx_iconst (v := 1) dX10_count_245 (by decide) ?_
      refine jx_ialdE (1) dX10_count_246 rfl (rfl) (by omega) (by omega) (hrf 1 (by decide)) ?_
      refine jx_iret dX10_count_247 rfl ?_
      exact ⟨rfl, rfl⟩
    · refine jx_iload_n dX10_count_0 rfl ?_
      refine jx_tsIn 248 dX10_count_1 (by decide) (by decide) rfl (by decide) ?_
      refine jx_aload_n dX10_count_248 rfl ?_
      refine jx_getR dX10_count_249 flX10_60 rfl rfl (by first | exact hRh | exact hR _ _ _ rfl) ?_
      refine jx_getR dX10_count_252 flX10_95 rfl rfl (by first | exact hRh | exact hR _ _ _ rfl) ?_
      refine jx_iconst (v := 2) dX10_count_255 (by decide) ?_
      refine jx_ialdE (2) dX10_count_256 rfl (rfl) (by omega) (by omega) (hrf 2 (by decide)) ?_
      refine jx_iret dX10_count_257 rfl ?_
      exact ⟨rfl, rfl⟩
    · refine jx_iload_n dX10_count_0 rfl ?_
      refine jx_tsIn 258 dX10_count_1 (by decide) (by decide) rfl (by decide) ?_
      refine jx_aload_n dX10_count_258 rfl ?_
      refine jx_getR dX10_count_259 flX10_32 rfl rfl (by first | exact hRh | exact hR _ _ _ rfl) ?_
      refine jx_getR dX10_count_262 flX10_150 rfl rfl (by first | exact hRh | exact hR _ _ _ rfl) ?_
      refine jx_iconst (v := 0) dX10_count_265 (by decide) ?_
      refine jx_ialdE (0) dX10_count_266 rfl (rfl) (by omega) (by omega) (hI.2.2.2.2 0 (by decide)) ?_
      refine jx_iret dX10_count_267 rfl ?_
      exact ⟨rfl, rfl⟩
    · refine jx_iload_n dX10_count_0 rfl ?_
      refine jx_tsIn 268 dX10_count_1 (by decide) (by decide) rfl (by decide) ?_
      refine jx_aload_n dX10_count_268 rfl ?_
      refine jx_getR dX10_count_269 flX10_32 rfl rfl (by first | exact hRh | exact hR _ _ _ rfl) ?_
      refine jx_getR dX10_count_272 flX10_150 rfl rfl (by first | exact hRh | exact hR _ _ _ rfl) ?_
      refine jx_iconst (v := 1) dX10_count_275 (by decide) ?_
      refine jx_ialdE (1) dX10_count_276 rfl (rfl) (by omega) (by omega) (hI.2.2.2.2 1 (by decide)) ?_
      refine jx_iret dX10_count_277 rfl ?_
      exact ⟨rfl, rfl⟩
    · refine jx_iload_n dX10_count_0 rfl ?_
      refine jx_tsIn 278 dX10_count_1 (by decide) (by decide) rfl (by decide) ?_
      refine jx_aload_n dX10_count_278 rfl ?_
      refine jx_getR dX10_count_279 flX10_32 rfl rfl (by first | exact hRh | exact hR _ _ _ rfl) ?_
      refine jx_getR dX10_count_282 flX10_150 rfl rfl (by first | exact hRh | exact hR _ _ _ rfl) ?_
      refine jx_iconst (v := 2) dX10_count_285 (by decide) ?_
      refine jx_ialdE (2) dX10_count_286 rfl (rfl) (by omega) (by omega) (hI.2.2.2.2 2 (by decide)) ?_
      refine jx_iret dX10_count_287 rfl ?_
      exact ⟨rfl, rfl⟩
    · refine jx_iload_n dX10_count_0 rfl ?_
      refine jx_tsIn 288 dX10_count_1 (by decide) (by decide) rfl (by decide) ?_
      refine jx_aload_n dX10_count_288 rfl ?_
      refine jx_getR dX10_count_289 flX10_32 rfl rfl (by first | exact hRh | exact hR _ _ _ rfl) ?_
      refine jx_getR dX10_count_292 flX10_150 rfl rfl (by first | exact hRh | exact hR _ _ _ rfl) ?_
      refine jx_iconst (v := 3) dX10_count_295 (by decide) ?_
      refine jx_ialdE (3) dX10_count_296 rfl (rfl) (by omega) (by omega) (hI.2.2.2.2 3 (by decide)) ?_
      refine jx_iret dX10_count_297 rfl ?_
      exact ⟨rfl, rfl⟩
set_option maxHeartbeats 1000000 in
set_option maxRecDepth 20000 in
theorem tX10_countF (hW : jWok w l) (hR : RS R) (k : Int32) (hbad : ¬ cntG k = true) : jTh w l mX10_count 1 [.ref 1000, .int k] n I L R eN := by
  refine jTh_of hW (by decide) rfl (Nat.le_of_ble_eq_true rfl) ?_
  refine jx_iload_n dX10_count_0 rfl ?_
  by_cases hs1_0 : k = 0
  · subst hs1_0
    refine jx_tsIn 112 dX10_count_1 (by decide) (by decide) rfl (by decide) ?_
    exact absurd (by decide) hbad
  by_cases hs1_1 : k = 1
  · subst hs1_1
    refine jx_tsIn 123 dX10_count_1 (by decide) (by decide) rfl (by decide) ?_
    exact absurd (by decide) hbad
  by_cases hs1_2 : k = 2
  · subst hs1_2
    refine jx_tsIn 134 dX10_count_1 (by decide) (by decide) rfl (by decide) ?_
    exact absurd (by decide) hbad
  by_cases hs1_3 : k = 3
  · subst hs1_3
    refine jx_tsIn 145 dX10_count_1 (by decide) (by decide) rfl (by decide) ?_
    exact absurd (by decide) hbad
  by_cases hs1_4 : k = 4
  · subst hs1_4
    refine jx_tsIn 156 dX10_count_1 (by decide) (by decide) rfl (by decide) ?_
    exact absurd (by decide) hbad
  by_cases hs1_5 : k = 5
  · subst hs1_5
    refine jx_tsIn 167 dX10_count_1 (by decide) (by decide) rfl (by decide) ?_
    exact absurd (by decide) hbad
  by_cases hs1_6 : k = 6
  · subst hs1_6
    refine jx_tsIn 175 dX10_count_1 (by decide) (by decide) rfl (by decide) ?_
    exact absurd (by decide) hbad
  by_cases hs1_7 : k = 7
  · subst hs1_7
    refine jx_tsIn 183 dX10_count_1 (by decide) (by decide) rfl (by decide) ?_
    exact absurd (by decide) hbad
  by_cases hs1_8 : k = 8
  · subst hs1_8
    refine jx_tsIn 191 dX10_count_1 (by decide) (by decide) rfl (by decide) ?_
    exact absurd (by decide) hbad
  by_cases hs1_9 : k = 9
  · subst hs1_9
    refine jx_tsIn 199 dX10_count_1 (by decide) (by decide) rfl (by decide) ?_
    exact absurd (by decide) hbad
  by_cases hs1_10 : k = 10
  · subst hs1_10
    refine jx_tsIn 207 dX10_count_1 (by decide) (by decide) rfl (by decide) ?_
    exact absurd (by decide) hbad
  by_cases hs1_11 : k = 11
  · subst hs1_11
    refine jx_tsIn 215 dX10_count_1 (by decide) (by decide) rfl (by decide) ?_
    exact absurd (by decide) hbad
  by_cases hs1_12 : k = 12
  · subst hs1_12
    refine jx_tsIn 223 dX10_count_1 (by decide) (by decide) rfl (by decide) ?_
    exact absurd (by decide) hbad
  by_cases hs1_13 : k = 13
  · subst hs1_13
    refine jx_tsIn 228 dX10_count_1 (by decide) (by decide) rfl (by decide) ?_
    exact absurd (by decide) hbad
  by_cases hs1_14 : k = 14
  · subst hs1_14
    refine jx_tsIn 238 dX10_count_1 (by decide) (by decide) rfl (by decide) ?_
    exact absurd (by decide) hbad
  by_cases hs1_15 : k = 15
  · subst hs1_15
    refine jx_tsIn 248 dX10_count_1 (by decide) (by decide) rfl (by decide) ?_
    exact absurd (by decide) hbad
  by_cases hs1_16 : k = 16
  · subst hs1_16
    refine jx_tsIn 298 dX10_count_1 (by decide) (by decide) rfl (by decide) ?_
    exact jx_thN (is := 155) (len := 2) 24 rfl rfl rfl rfl rfl (Nat.le_of_ble_eq_true rfl) dX10_count_298 dX10_count_301 (Or.inl ⟨dX10_count_302, rfl⟩) dX10_count_304 dX10_count_307 (by decide) (by decide) (fun n1 hn1 => ⟨rfl, n1, hn1, rfl⟩)
  by_cases hs1_17 : k = 17
  · subst hs1_17
    refine jx_tsIn 298 dX10_count_1 (by decide) (by decide) rfl (by decide) ?_
    exact jx_thN (is := 155) (len := 2) 24 rfl rfl rfl rfl rfl (Nat.le_of_ble_eq_true rfl) dX10_count_298 dX10_count_301 (Or.inl ⟨dX10_count_302, rfl⟩) dX10_count_304 dX10_count_307 (by decide) (by decide) (fun n1 hn1 => ⟨rfl, n1, hn1, rfl⟩)
  by_cases hs1_18 : k = 18
  · subst hs1_18
    refine jx_tsIn 298 dX10_count_1 (by decide) (by decide) rfl (by decide) ?_
    exact jx_thN (is := 155) (len := 2) 24 rfl rfl rfl rfl rfl (Nat.le_of_ble_eq_true rfl) dX10_count_298 dX10_count_301 (Or.inl ⟨dX10_count_302, rfl⟩) dX10_count_304 dX10_count_307 (by decide) (by decide) (fun n1 hn1 => ⟨rfl, n1, hn1, rfl⟩)
  by_cases hs1_19 : k = 19
  · subst hs1_19
    refine jx_tsIn 298 dX10_count_1 (by decide) (by decide) rfl (by decide) ?_
    exact jx_thN (is := 155) (len := 2) 24 rfl rfl rfl rfl rfl (Nat.le_of_ble_eq_true rfl) dX10_count_298 dX10_count_301 (Or.inl ⟨dX10_count_302, rfl⟩) dX10_count_304 dX10_count_307 (by decide) (by decide) (fun n1 hn1 => ⟨rfl, n1, hn1, rfl⟩)
  by_cases hs1_20 : k = 20
  · subst hs1_20
    refine jx_tsIn 258 dX10_count_1 (by decide) (by decide) rfl (by decide) ?_
    exact absurd (by decide) hbad
  by_cases hs1_21 : k = 21
  · subst hs1_21
    refine jx_tsIn 268 dX10_count_1 (by decide) (by decide) rfl (by decide) ?_
    exact absurd (by decide) hbad
  by_cases hs1_22 : k = 22
  · subst hs1_22
    refine jx_tsIn 278 dX10_count_1 (by decide) (by decide) rfl (by decide) ?_
    exact absurd (by decide) hbad
  by_cases hs1_23 : k = 23
  · subst hs1_23
    refine jx_tsIn 288 dX10_count_1 (by decide) (by decide) rfl (by decide) ?_
    exact absurd (by decide) hbad
  refine jx_tsOut 298 dX10_count_1 ?_ (by decide) ?_
  · have z0 := lv_neT hs1_0 (a := 0) rfl; have z1 := lv_neT hs1_1 (a := 1) rfl; have z2 := lv_neT hs1_2 (a := 2) rfl; have z3 := lv_neT hs1_3 (a := 3) rfl; have z4 := lv_neT hs1_4 (a := 4) rfl; have z5 := lv_neT hs1_5 (a := 5) rfl; have z6 := lv_neT hs1_6 (a := 6) rfl; have z7 := lv_neT hs1_7 (a := 7) rfl; have z8 := lv_neT hs1_8 (a := 8) rfl; have z9 := lv_neT hs1_9 (a := 9) rfl; have z10 := lv_neT hs1_10 (a := 10) rfl; have z11 := lv_neT hs1_11 (a := 11) rfl; have z12 := lv_neT hs1_12 (a := 12) rfl; have z13 := lv_neT hs1_13 (a := 13) rfl; have z14 := lv_neT hs1_14 (a := 14) rfl; have z15 := lv_neT hs1_15 (a := 15) rfl; have z16 := lv_neT hs1_16 (a := 16) rfl; have z17 := lv_neT hs1_17 (a := 17) rfl; have z18 := lv_neT hs1_18 (a := 18) rfl; have z19 := lv_neT hs1_19 (a := 19) rfl; have z20 := lv_neT hs1_20 (a := 20) rfl; have z21 := lv_neT hs1_21 (a := 21) rfl; have z22 := lv_neT hs1_22 (a := 22) rfl; have z23 := lv_neT hs1_23 (a := 23) rfl; omega
  exact jx_thN (is := 155) (len := 2) 24 rfl rfl rfl rfl rfl (Nat.le_of_ble_eq_true rfl) dX10_count_298 dX10_count_301 (Or.inl ⟨dX10_count_302, rfl⟩) dX10_count_304 dX10_count_307 (by decide) (by decide) (fun n1 hn1 => ⟨rfl, n1, hn1, rfl⟩)
set_option maxHeartbeats 1000000 in
set_option maxRecDepth 20000 in
theorem tX10_fault (hW : jWok w l) (hR : RS R) : jCD w l mX10_fault 1 [.ref 1000] (n, shE, I, L, R) (some (.int (I 1000 3))) (n, shE, I, L, R) := by
  refine jCD_of hW (by decide) rfl (Nat.le_of_ble_eq_true rfl) ?_
  refine jx_aload_n dX10_fault_0 rfl ?_
  refine jx_getI dX10_fault_1 flX10_71 rfl rfl ?_
  refine jx_iret dX10_fault_4 rfl ?_
  exact ⟨rfl, rfl⟩
set_option maxHeartbeats 1000000 in
set_option maxRecDepth 20000 in
theorem tX10_buried (hW : jWok w l) (hR : RS R) {h : Nat} {T : Nat → Nat → Int32} {W H np len : Nat} (hX : CX I L R h T W H np len) (hz : I 1000 15 = 1) {p : Nat} (hp : p < np) : jCD w l mX10_buried 2 [.ref 1000, .int (nI p)] (n, shE, I, L, R) (some (.int (I 1003 p))) (n, shE, I, L, R) := by
  refine jCD_of hW (by decide) rfl (Nat.le_of_ble_eq_true rfl) ?_
  have hn6 := hX.1.2.2.1.2.2.2.2.1.2
  refine jx_aload_n dX10_buried_0 rfl ?_
  refine jx_iload_n dX10_buried_1 rfl ?_
  refine jx_Vv (as := [.int _]) dX10_buried_2 mlX10_188 okX10_needParty viX10_needParty rfl rfl rfl rfl rfl (by decide) (Nat.le_of_ble_eq_true rfl) (tX10_needParty hW hR hX hp) ?_
  refine jx_aload_n dX10_buried_5 rfl ?_
  refine jx_getIE dX10_buried_6 flX10_111 rfl rfl (hz) ?_
  refine jx_ifN_ne (a := 1) 23 dX10_buried_9 (by decide) (by decide) (fun h9 => ?_) (fun h9 => absurd h9 (by decide))
  refine jx_aload_n dX10_buried_23 rfl ?_
  refine jx_getR dX10_buried_24 flX10_17 rfl rfl (hR _ _ _ rfl) ?_
  refine jx_iload_n dX10_buried_27 rfl ?_
  refine jx_ialdN (p) dX10_buried_28 rfl (rfl) (by omega) (by omega) ?_
  refine jx_iret dX10_buried_29 rfl ?_
  exact ⟨rfl, rfl⟩
set_option maxHeartbeats 1000000 in
set_option maxRecDepth 20000 in
theorem tX10_buriedF (hW : jWok w l) (hR : RS R) {h : Nat} {T : Nat → Nat → Int32} {W H np len : Nat} (hX : CX I L R h T W H np len) (p : Int32) {z : Bool} (hz : I 1000 15 = jb z) (hbad : ¬ (ltQ p np = true ∧ z = true)) : jTh w l mX10_buried 3 [.ref 1000, .int p] n I L R eN := by
  refine jTh_of hW (by decide) rfl (Nat.le_of_ble_eq_true rfl) ?_
  by_cases q0 : ltQ p np = true
  · obtain ⟨p', rfl, hv0⟩ := ltQ_n q0
    refine jx_aload_n dX10_buried_0 rfl ?_
    refine jx_iload_n dX10_buried_1 rfl ?_
    refine jx_Vv (as := [.int _]) dX10_buried_2 mlX10_188 okX10_needParty viX10_needParty rfl rfl rfl rfl rfl (by decide) (Nat.le_of_ble_eq_true rfl) (tX10_needParty hW hR hX hv0) ?_
    refine jx_aload_n dX10_buried_5 rfl ?_
    refine jx_getIE dX10_buried_6 flX10_111 rfl rfl (hz) ?_
    refine jx_ifB_ne 23 dX10_buried_9 (by decide) (fun h9 => ?_) (fun h9 => ?_)
    · exact absurd ⟨q0, h9⟩ hbad
    · exact jx_thN (is := 309) (len := 3) 37 rfl rfl rfl rfl rfl (Nat.le_of_ble_eq_true rfl) dX10_buried_12 dX10_buried_15 (Or.inr ⟨dX10_buried_16, rfl⟩) dX10_buried_19 dX10_buried_22 (by decide) (by decide) (fun n1 hn1 => ⟨rfl, n1, hn1, rfl⟩)
  · refine jx_aload_n dX10_buried_0 rfl ?_
    refine jx_iload_n dX10_buried_1 rfl ?_
    exact jx_VT (as := [.int _]) dX10_buried_2 mlX10_188 okX10_needParty viX10_needParty rfl rfl rfl rfl rfl (by decide) (Nat.le_of_ble_eq_true rfl) (by decide) (by decide) (tX10_needPartyF hW hR hX (fun z => q0 (decide_eq_true z))) (fun E t h => h)
end CX1
