/-! THE CLASS: the first arrival -/
theorem sf_bs {f : Nat → Bool} {W H : Nat} : bs f &&& bs (fun c => decide (c < W * H)) = bs (fun c => f c && decide (c < W * H)) := bs_and _ _
section CF1
variable {w : jWD} {l : Launch} {n : Nat} {I : Nat → Nat → Int32} {L : Nat → Nat → Int64} {R : Nat → Nat → Option Nat}

set_option maxHeartbeats 1000000 in
set_option maxRecDepth 20000 in
theorem tX0_safeFrom (hW : jWok w l) (hR : RS R) {h : Nat} {T : Nat → Nat → Int32} {W H np len : Nat} (hC : CF I L R h T W H np len) {home pace : Nat} {m : Nat → Nat → Bool} (hP : Prep I L W H home pace m) (hp1 : 1 ≤ pace) (hp7 : pace ≤ 7) {tick : Nat} (ht : tick + pace < 96) : jCD w l mX0_safeFrom 1 [.ref 1040, .int (nI tick)] (n, shE, I, L, R) (some (.long (bs (fun c => decide (c < W * H) && allS m c tick pace)))) (n, shE, I, L, R) := by
  refine jCD_of hW (by decide) rfl (Nat.le_of_ble_eq_true rfl) ?_
  obtain ⟨⟨hh, hRi⟩, hI, hRI, -, -, -⟩ := hC
  obtain ⟨hP1, hP2, hP3⟩ := hP
  have key : ∀ j, j ≤ pace → jWP w l mX0_safeFrom 1 0 0 (fun r t => r = (some (.long (bs (fun c => decide (c < W * H) && allS m c tick pace)))) ∧ t = (n, shE, I, L, R)) (fun _ _ => False) 16 [(0, .ref 1040), (1, .int (nI tick)), (2, .long (bs (fun c => decide (c < W * H) && allS m c tick j))), (4, .int (nI (tick + j + 1)))] [] (n, shE, I, L, R) := by
    refine jdown _ (fun j hj ih => ?_)
    refine jx_iload dX0_safeFrom_16 rfl ?_
    refine jx_iload_n dX0_safeFrom_18 rfl ?_
    refine jx_aload_n dX0_safeFrom_19 rfl ?_
    refine jx_getIE dX0_safeFrom_20 flX0_106 rfl rfl (hP2) ?_
    refine jx_iaddE (z := nI (tick + pace)) dX0_safeFrom_23 (nI_add tick pace) ?_
    refine jx_icmpN_gt (a := (tick + j + 1)) (b := (tick + pace)) 50 dX0_safeFrom_24 (by decide) (by omega) (by omega) (fun h24 => ?_) (fun h24 => ?_)
    · refine jx_lload_n dX0_safeFrom_50 rfl ?_
      refine jx_lret dX0_safeFrom_51 rfl ?_
      exact ⟨by rw [show j = pace by omega], rfl⟩
    · refine jx_iload dX0_safeFrom_27 rfl ?_
      refine jx_bipush (v := 96) dX0_safeFrom_29 (by decide) ?_
      refine jx_icmpN_ge (a := (tick + j + 1)) (b := 96) 50 dX0_safeFrom_31 (by decide) (by omega) (by omega) (fun h31 => ?_) (fun h31 => ?_)
      · exact absurd h31 (by omega)
      · refine jx_lload_n dX0_safeFrom_34 rfl ?_
        refine jx_aload_n dX0_safeFrom_35 rfl ?_
        refine jx_getR dX0_safeFrom_36 flX0_19 rfl rfl (hR _ _ _ rfl) ?_
        refine jx_iload dX0_safeFrom_39 rfl ?_
        refine jx_laldE (tick + j + 1) dX0_safeFrom_41 rfl (rfl) (by omega) (by omega) (hP3 (tick + j + 1) (by omega)) ?_
        refine jx_land dX0_safeFrom_42 ?_
        refine jx_lstore_n dX0_safeFrom_43 rfl (by decide) ?_
        refine jx_iinc dX0_safeFrom_44 rfl (v := nI ((tick + j + 1) + 1)) (nI_1 _) (by decide) ?_
        refine jx_goto 16 dX0_safeFrom_47 (by decide) ?_
        have kk := ih (by omega)
        rw [bs_and]
        have e : bs (fun c => (decide (c < W * H) && allS m c tick j) && (decide (c < W * H) && m c (tick + j + 1))) = bs (fun c => decide (c < W * H) && allS m c tick (j + 1)) := bs_c (fun c _ => by
          show _ = (decide (c < W * H) && (allS m c tick j && m c (tick + j + 1)))
          cases decide (c < W * H) <;> simp)
        rw [e]
        exact jx_ls (by exact ⟨rfl, rfl, rfl, rfl, trivial⟩) kk
  rcases hh with rfl | rfl
  all_goals
    refine jx_aload_n dX0_safeFrom_0 rfl ?_
    refine jx_getR dX0_safeFrom_1 flX0_29 rfl rfl hRi ?_
    refine jx_getR dX0_safeFrom_4 flX0_87 rfl rfl (hR _ _ _ rfl) ?_
    refine jx_getLE dX0_safeFrom_7 flX0_145 rfl rfl (hI.1.2.2.2.2.2.1.1) ?_
    refine jx_lstore_n dX0_safeFrom_10 rfl (by decide) ?_
    refine jx_iload_n dX0_safeFrom_11 rfl ?_
    refine jx_iconst (v := 1) dX0_safeFrom_12 (by decide) ?_
    refine jx_iaddE (z := nI (tick + 1)) dX0_safeFrom_13 (nI_add tick 1) ?_
    refine jx_istore dX0_safeFrom_14 (by decide) ?_
    have kk := key 0 (by omega)
    rw [show bs (fun c => decide (c < W * H) && allS m c tick 0) = bs (fun c => decide (c < W * H)) from bs_c (fun c _ => by simp [allS])] at kk
    exact jx_ls (by exact ⟨rfl, rfl, rfl, rfl, trivial⟩) kk
set_option maxHeartbeats 1000000 in
set_option maxRecDepth 20000 in
theorem tX0_firstArrival (hW : jWok w l) (hR : RS R) {h : Nat} {T : Nat → Nat → Int32} {W H np len : Nat} (hC : CF I L R h T W H np len) {home pace : Nat} {m : Nat → Nat → Bool} (hP : Prep I L W H home pace m) (hp1 : 1 ≤ pace) (hp7 : pace ≤ 7) (hhm : home < W * H) {tick : Nat} (ht : tick < 96) : jRi w l mX0_firstArrival 3 [.ref 1040, .int (nI tick)] (n, shE, I, L, R) (fun r t => r = oI (ffa W H pace m home tick) ∧ ∃ M, t = (n, shE, I, M, R) ∧ ∀ b j, b ≠ 1044 → M b j = L b j) := by
  refine jRi_of hW (by decide) rfl (Nat.le_of_ble_eq_true rfl) ?_
  have hC0 := hC
  have hP0 := hP
  obtain ⟨⟨hh, hRi⟩, hI, hRI, -, -, -⟩ := hC
  have hT := RI.tq hRI
  have hwh : W * H ≤ 63 := Nat.mul_le_mul hT.1.2 hT.2.1.2
  obtain ⟨hP1, hP2, hP3⟩ := hP
  have hal : ∀ M : Nat → Nat → Int64, (∀ b j, b ≠ 1044 → M b j = L b j) → CF I M R h T W H np len ∧ Prep I M W H home pace m := fun M hM => ⟨CF_k hC0 (eqC_r I) (fun b j hb => hM b j (fun q => by rw [q] at hb; cases hb)) (fun _ => rfl) (fun _ => rfl) (hM 1040 2 (by decide)), hP1, hP2, fun t ht => (hM 1043 t (by decide)).trans (hP3 t ht)⟩
  have key : ∀ k, k ≤ 96 - tick → ∀ M : Nat → Nat → Int64, (∀ t', t' < 96 → M 1044 t' = bs (PLc W H pace m home tick k t')) → (∀ b j, b ≠ 1044 → M b j = L b j) → (∀ j, j < k → hit W H pace m home tick j = false) → jWP w l mX0_firstArrival 3 0 0 (fun v t => ∃ r, v = some (.int r) ∧ (r = oI (ffa W H pace m home tick) ∧ ∃ M, t = (n, shE, I, M, R) ∧ ∀ b j, b ≠ 1044 → M b j = L b j)) (fun _ _ => False) 22 [(0, .ref 1040), (1, .int (nI tick)), (2, .int (nI (tick + k)))] [] (n, shE, I, M, R) := by
    refine jdown _ (fun k hk ih => ?_)
    intro M hM hL hn
    obtain ⟨hC1, hPr1⟩ := hal M hL
    have hnx : k < 96 - tick → ∀ M2 : Nat → Nat → Int64, (∀ t', t' < 96 → M2 1044 t' = bs (PLc W H pace m home tick (k + 1) t')) → (∀ b j, b ≠ 1044 → M2 b j = L b j) → hit W H pace m home tick k = false → jWP w l mX0_firstArrival 3 0 0 (fun v t => ∃ r, v = some (.int r) ∧ (r = oI (ffa W H pace m home tick) ∧ ∃ M, t = (n, shE, I, M, R) ∧ ∀ b j, b ≠ 1044 → M b j = L b j)) (fun _ _ => False) 22 [(0, .ref 1040), (1, .int (nI tick)), (2, .int (nI (tick + k + 1)))] [] (n, shE, I, M2, R) := by
      intro h1 M2 h2 h3 h4
      exact ih h1 M2 h2 h3 (fun j hj => by
        by_cases z : j = k
        · rw [z]; exact h4
        · exact hn j (by omega))
    have hmv : ∀ t' c, PLc W H pace m home tick (k + 1) t' c = ((PLc W H pace m home tick k t' c || (decide (t' = tick + k + 1) && (PLc W H pace m home tick k (tick + k) c && m c (tick + k + 1)))) || (decide (t' = tick + k + pace) && (decide (c < W * H) && besF W H (PLc W H pace m home tick k (tick + k)) c && allS m c (tick + k) pace))) := fun t' c => rfl
    rcases hh with rfl | rfl
    all_goals
    refine jx_iload_n dX0_firstArrival_22 rfl ?_
    refine jx_bipush (v := 96) dX0_firstArrival_23 (by decide) ?_
    refine jx_icmpN_ge (a := (tick + k)) (b := 96) 131 dX0_firstArrival_25 (by decide) (by omega) (by omega) (fun h25 => ?_) (fun h25 => ?_)
    · refine jx_iconst (v := -1) dX0_firstArrival_131 (by decide) ?_
      refine jx_iret dX0_firstArrival_132 rfl ?_
      refine ⟨_, rfl, ?_, M, rfl, hL⟩
      unfold ffa
      rw [fnd_none.mpr (fun j hj => hn j (by omega))]
      rfl
    · refine jx_aload_n dX0_firstArrival_28 rfl ?_
      refine jx_getR dX0_firstArrival_29 flX0_23 rfl rfl (hR _ _ _ rfl) ?_
      refine jx_iload_n dX0_firstArrival_32 rfl ?_
      refine jx_laldE (tick + k) dX0_firstArrival_33 rfl (rfl) (by omega) (by omega) (hM _ (by omega)) ?_
      refine jx_lstore_n dX0_firstArrival_34 rfl (by decide) ?_
      refine jx_lload_n dX0_firstArrival_35 rfl ?_
      refine jx_aload_n dX0_firstArrival_36 rfl ?_
      refine jx_getR dX0_firstArrival_37 flX0_29 rfl rfl hRi ?_
      refine jx_getR dX0_firstArrival_40 flX0_87 rfl rfl (hR _ _ _ rfl) ?_
      refine jx_getLE dX0_firstArrival_43 flX0_91 rfl rfl (hC1.2.1.1.2.2.2.2.2.1.2.2) ?_
      refine jx_landE (z := bs (fun c => PLc W H pace m home tick k (tick + k) c && decide (c < W * H ∧ c % W = W - 1))) dX0_firstArrival_46 (bs_and _ _) ?_
      refine jx_lconst (v := 0) dX0_firstArrival_47 (by decide) ?_
      refine jx_lcmp dX0_firstArrival_48 ?_
      refine jx_if_eq 54 dX0_firstArrival_49 (by decide) (fun h49 => ?_) (fun h49 => ?_)
      · have hnh : hit W H pace m home tick k = false := by
          cases e : hit W H pace m home tick k
          · rfl
          · obtain ⟨c, hc1, hc2⟩ := (hit_iff hhm).mp e
            have hlt := PLc_lt hhm k hc1
            have q := lcmp_ne.mp h49
            exact absurd q (bs_ne.mpr ⟨c, by omega, by rw [hc1, decide_eq_true (⟨hlt, hc2⟩ : c < W * H ∧ c % W = W - 1)]; rfl⟩)
        refine jx_iload_n dX0_firstArrival_54 rfl ?_
        refine jx_iconst (v := 1) dX0_firstArrival_55 (by decide) ?_
        refine jx_iaddE (z := nI ((tick + k) + 1)) dX0_firstArrival_56 (nI_add (tick + k) 1) ?_
        refine jx_bipush (v := 96) dX0_firstArrival_57 (by decide) ?_
        refine jx_icmpN_ge (a := ((tick + k) + 1)) (b := 96) 83 dX0_firstArrival_59 (by decide) (by omega) (by omega) (fun h59 => ?_) (fun h59 => ?_)
        · skip
          refine jx_iload_n dX0_firstArrival_83 rfl ?_
          refine jx_aload_n dX0_firstArrival_84 rfl ?_
          refine jx_getIE dX0_firstArrival_85 flX0_106 rfl rfl (hP2) ?_
          refine jx_iaddE (z := nI ((tick + k) + pace)) dX0_firstArrival_88 (nI_add (tick + k) pace) ?_
          refine jx_bipush (v := 96) dX0_firstArrival_89 (by decide) ?_
          refine jx_icmpN_ge (a := ((tick + k) + pace)) (b := 96) 125 dX0_firstArrival_91 (by decide) (by omega) (by omega) (fun h91 => ?_) (fun h91 => ?_)
          · skip
            refine jx_iinc dX0_firstArrival_125 rfl (v := nI ((tick + k) + 1)) (nI_1 _) (by decide) ?_
            refine jx_goto 22 dX0_firstArrival_128 (by decide) ?_
            refine jx_ls (by exact ⟨rfl, rfl, rfl, trivial⟩) (hnx (by omega) _ (fun t' ht0 => ?_) (fun b j hb => hL b j hb) hnh)
            have ht' := And.intro ht0 trivial
            rw [hM t' ht'.1]
            refine bs_c (fun c _ => ?_)
            rw [hmv, decide_eq_false (show ¬ t' = tick + k + 1 by omega), decide_eq_false (show ¬ t' = tick + k + pace by omega)]
            simp
          · skip
            exact absurd h91 (by omega)
        · refine jx_aload_n dX0_firstArrival_62 rfl ?_
          refine jx_getR dX0_firstArrival_63 flX0_23 rfl rfl (hR _ _ _ rfl) ?_
          refine jx_iload_n dX0_firstArrival_66 rfl ?_
          refine jx_iconst (v := 1) dX0_firstArrival_67 (by decide) ?_
          refine jx_iaddE (z := nI ((tick + k) + 1)) dX0_firstArrival_68 (nI_add (tick + k) 1) ?_
          refine jx_dup2 dX0_firstArrival_69 rfl rfl ?_
          refine jx_laldE ((tick + k) + 1) dX0_firstArrival_70 rfl (rfl) (by omega) (by omega) (hM (tick + k + 1) (by omega)) ?_
          refine jx_lload_n dX0_firstArrival_71 rfl ?_
          refine jx_aload_n dX0_firstArrival_72 rfl ?_
          refine jx_getR dX0_firstArrival_73 flX0_19 rfl rfl (hR _ _ _ rfl) ?_
          refine jx_iload_n dX0_firstArrival_76 rfl ?_
          refine jx_iconst (v := 1) dX0_firstArrival_77 (by decide) ?_
          refine jx_iaddE (z := nI ((tick + k) + 1)) dX0_firstArrival_78 (nI_add (tick + k) 1) ?_
          refine jx_laldE ((tick + k) + 1) dX0_firstArrival_79 rfl (rfl) (by omega) (by omega) (hPr1.2.2 (tick + k + 1) (by omega)) ?_
          refine jx_land dX0_firstArrival_80 ?_
          refine jx_lor dX0_firstArrival_81 ?_
          refine jx_lastN ((tick + k) + 1) dX0_firstArrival_82 rfl (rfl) (by omega) (by omega) ?_
          refine jx_iload_n dX0_firstArrival_83 rfl ?_
          refine jx_aload_n dX0_firstArrival_84 rfl ?_
          refine jx_getIE dX0_firstArrival_85 flX0_106 rfl rfl (hP2) ?_
          refine jx_iaddE (z := nI ((tick + k) + pace)) dX0_firstArrival_88 (nI_add (tick + k) pace) ?_
          refine jx_bipush (v := 96) dX0_firstArrival_89 (by decide) ?_
          refine jx_icmpN_ge (a := ((tick + k) + pace)) (b := 96) 125 dX0_firstArrival_91 (by decide) (by omega) (by omega) (fun h91 => ?_) (fun h91 => ?_)
          · skip
            refine jx_iinc dX0_firstArrival_125 rfl (v := nI ((tick + k) + 1)) (nI_1 _) (by decide) ?_
            refine jx_goto 22 dX0_firstArrival_128 (by decide) ?_
            refine jx_ls (by exact ⟨rfl, rfl, rfl, trivial⟩) (hnx (by omega) _ (fun t' ht0 => ?_) (fun b j hb => (upL_nea hb).trans (hL b j hb)) hnh)
            have ht' := And.intro ht0 trivial
            by_cases z : t' = tick + k + 1
            · rw [z, upL_same, bs_and, bs_or]
              refine bs_c (fun c hc => ?_)
              rw [hmv, decide_eq_true rfl, decide_eq_false (show ¬ tick + k + 1 = tick + k + pace by omega)]
              have hlt := PLc_lt (pace := pace) (m := m) (tick := tick) hhm k (t' := tick + k) (c := c)
              cases e : PLc W H pace m home tick k (tick + k) c
              · simp
              · rw [decide_eq_true (hlt e)]; simp
            · rw [upL_ne (fun q => z q.2), hM t' ht'.1]
              refine bs_c (fun c _ => ?_)
              rw [hmv, decide_eq_false z, decide_eq_false (show ¬ t' = tick + k + pace by omega)]
              simp
          · obtain ⟨hC2, hPr2⟩ := hal (upL M 1044 (tick + k + 1) (bs (PLc W H pace m home tick k (tick + k + 1)) ||| (bs (PLc W H pace m home tick k (tick + k)) &&& bs (fun c => decide (c < W * H) && m c (tick + k + 1))))) (fun b j hb => (upL_nea hb).trans (hL b j hb))
            refine jx_aload_n dX0_firstArrival_94 rfl ?_
            refine jx_getR dX0_firstArrival_95 flX0_23 rfl rfl (hR _ _ _ rfl) ?_
            refine jx_iload_n dX0_firstArrival_98 rfl ?_
            refine jx_aload_n dX0_firstArrival_99 rfl ?_
            refine jx_getIE dX0_firstArrival_100 flX0_106 rfl rfl (hP2) ?_
            refine jx_iaddE (z := nI ((tick + k) + pace)) dX0_firstArrival_103 (nI_add (tick + k) pace) ?_
            refine jx_dup2 dX0_firstArrival_104 rfl rfl ?_
            refine jx_laldN ((tick + k) + pace) dX0_firstArrival_105 rfl (rfl) (by omega) (by omega) ?_
            refine jx_aload_n dX0_firstArrival_106 rfl ?_
            refine jx_getR dX0_firstArrival_107 flX0_29 rfl rfl hRi ?_
            refine jx_getR dX0_firstArrival_110 flX0_87 rfl rfl (hR _ _ _ rfl) ?_
            refine jx_lload_n dX0_firstArrival_113 rfl ?_
            refine jx_Vl (as := [.long _]) dX0_firstArrival_114 mlX0_137 okX8_beside viX8_beside rfl rfl rfl rfl rfl (by decide) (Nat.le_of_ble_eq_true rfl) (tX8_beside hW hR (by decide) hC2.2.1.1 hT (f := PLc W H pace m home tick k (tick + k)) (fun c hc => PLc_lt hhm k hc)) ?_
            refine jx_aload_n dX0_firstArrival_117 rfl ?_
            refine jx_iload_n dX0_firstArrival_118 rfl ?_
            refine jx_Vl (as := [.int _]) dX0_firstArrival_119 mlX0_141 okX0_safeFrom viX0_safeFrom rfl rfl rfl rfl rfl (by decide) (Nat.le_of_ble_eq_true rfl) (tX0_safeFrom hW hR hC2 hPr2 hp1 hp7 (tick := tick + k) (by omega)) ?_
            refine jx_land dX0_firstArrival_122 ?_
            refine jx_lor dX0_firstArrival_123 ?_
            refine jx_lastN ((tick + k) + pace) dX0_firstArrival_124 rfl (rfl) (by omega) (by omega) ?_
            refine jx_iinc dX0_firstArrival_125 rfl (v := nI ((tick + k) + 1)) (nI_1 _) (by decide) ?_
            refine jx_goto 22 dX0_firstArrival_128 (by decide) ?_
            refine jx_ls (by exact ⟨rfl, rfl, rfl, trivial⟩) (hnx (by omega) _ (fun t' ht0 => ?_) (fun b j hb => (upL_nea hb).trans ((upL_nea hb).trans (hL b j hb))) hnh)
            have ht' := And.intro ht0 trivial
            have hlt : ∀ c, PLc W H pace m home tick k (tick + k) c = true → c < W * H := fun c => PLc_lt (pace := pace) (m := m) (tick := tick) hhm k (t' := tick + k) (c := c)
            have e1 : ∀ t'', t'' < 96 → upL M 1044 (tick + k + 1) (bs (PLc W H pace m home tick k (tick + k + 1)) ||| (bs (PLc W H pace m home tick k (tick + k)) &&& bs (fun c => decide (c < W * H) && m c (tick + k + 1)))) 1044 t'' = bs (fun c => PLc W H pace m home tick k t'' c || (decide (t'' = tick + k + 1) && (PLc W H pace m home tick k (tick + k) c && m c (tick + k + 1)))) := by
              intro t'' h''
              by_cases z : t'' = tick + k + 1
              · rw [z, upL_same, bs_and, bs_or]
                refine bs_c (fun c hc => ?_)
                rw [decide_eq_true rfl]
                cases e : PLc W H pace m home tick k (tick + k) c
                · simp
                · rw [decide_eq_true (hlt c e)]; try simp
              · rw [upL_ne (fun q => z q.2), hM t'' h'']
                refine bs_c (fun c _ => ?_)
                rw [decide_eq_false z]
                simp
            by_cases z : t' = tick + k + pace
            · rw [z, upL_same, e1 _ (by omega), bs_and, bs_or]
              refine bs_c (fun c hc => ?_)
              rw [hmv, decide_eq_true (show tick + k + pace = tick + k + pace from rfl)]
              cases decide (c < W * H) <;> simp
            · rw [upL_ne (fun q => z q.2), e1 t' ht'.1]
              refine bs_c (fun c _ => ?_)
              rw [hmv, decide_eq_false z]
              simp
      · have hhit : hit W H pace m home tick k = true := by
          have q := fun z => h49 (lcmp_ne.mpr z)
          obtain ⟨c, hc, hf⟩ := bs_ne.mp q
          simp only [Bool.and_eq_true, decide_eq_true_eq] at hf
          exact (hit_iff hhm).mpr ⟨c, hf.1, hf.2.2⟩
        refine jx_iload_n dX0_firstArrival_52 rfl ?_
        refine jx_iret dX0_firstArrival_53 rfl ?_
        refine ⟨_, rfl, ?_, M, rfl, hL⟩
        unfold ffa
        rw [fnd_some.mpr ⟨by omega, hhit, hn⟩]
        rfl
  rcases hh with rfl | rfl
  all_goals
    refine jx_aload_n dX0_firstArrival_0 rfl ?_
    refine jx_getR dX0_firstArrival_1 flX0_23 rfl rfl (hR _ _ _ rfl) ?_
    refine jx_lconst (v := 0) dX0_firstArrival_4 (by decide) ?_
    refine jx_Sv (as := [.ref _, .long _]) dX0_firstArrival_5 mlX0_134 okJ7_fill_d0a16 stJ7_fill_d0a16 rfl rfl (by decide) (Nat.le_of_ble_eq_true rfl) (tJ7_fill_d0a16 hW 0 rfl (by decide)) ?_
    refine jx_aload_n dX0_firstArrival_8 rfl ?_
    refine jx_getR dX0_firstArrival_9 flX0_23 rfl rfl (hR _ _ _ rfl) ?_
    refine jx_iload_n dX0_firstArrival_12 rfl ?_
    refine jx_lconst (v := 1) dX0_firstArrival_13 (by decide) ?_
    refine jx_aload_n dX0_firstArrival_14 rfl ?_
    refine jx_getIE dX0_firstArrival_15 flX0_100 rfl rfl (hP1) ?_
    refine jx_lshl dX0_firstArrival_18 ?_
    refine jx_lastN (tick) dX0_firstArrival_19 rfl (rfl) (by omega) (by omega) ?_
    refine jx_iload_n dX0_firstArrival_20 rfl ?_
    refine jx_istore_n dX0_firstArrival_21 rfl (by decide) ?_
    refine jx_ls (by exact ⟨rfl, rfl, rfl, trivial⟩) (key 0 (by omega) _ (fun t' ht' => ?_) (fun b j hb => ?_) (fun j hj => absurd hj (by omega)))
    · rw [bs_1 (by omega)]
      by_cases z : t' = tick
      · rw [z, upL_same]
        exact bs_c (fun c _ => by rw [PLc, decide_eq_true rfl, Bool.true_and])
      · rw [upL_ne (fun q => z q.2)]
        show flL L 1044 (fun _ => 0) 96 1044 t' = _
        unfold flL
        rw [if_pos ⟨rfl, ht'⟩, bs_0]
        exact bs_c (fun c _ => by rw [PLc, decide_eq_false z]; rfl)
    · rw [upL_nea hb]
      show flL L 1044 (fun _ => 0) 96 b j = _
      unfold flL
      rw [if_neg (fun q => hb q.1)]
set_option maxHeartbeats 1000000 in
set_option maxRecDepth 20000 in
theorem tX0_arrival (hW : jWok w l) (hR : RS R) {h : Nat} {T : Nat → Nat → Int32} {W H np len : Nat} (hC : CF I L R h T W H np len) {p day tick : Nat} (hp : p < np) (hd : day ≤ 40) (ht : tick < 96)  : jRi w l mX0_arrival 6 [.ref 1040, .int (nI p), .int (nI day), .int (nI tick)] (n, shE, I, L, R) (fun r t => r = aI (arr T W H len day (T 1072 7) p 0 tick) ∧ ∃ J M, t = (n, shE, J, M, R) ∧ eqC I J ∧ eqCL L M ∧ CF J M R h T W H np len ∧ Prep J M W H (W * cN (T 1079 p)) (pcOf T p 0) (mP T W H len day (T 1072 7) p)) := by
  refine jRi_of hW (by decide) rfl (Nat.le_of_ble_eq_true rfl) ?_
  have hC0 := hC
  obtain ⟨⟨hh, hRi⟩, hI, hRI, -, -, -⟩ := hC
  have hpp := hRI.2.2.2.2.2.1 p hp
  obtain ⟨⟨hp0, hp0a⟩, ⟨hp1, hp1a, hp1b⟩, ⟨hp2, hp2a⟩, ⟨hp3, hp3a⟩, -, -⟩ := hpp
  have hp6 : p < 6 := Nat.lt_of_lt_of_le hp hRI.2.2.2.2.1.2
  have hT := RI.tq hRI
  have hrw : W * cN (T 1079 p) < W * H := by
    have h1 : W * (cN (T 1079 p) + 1) ≤ W * H := Nat.mul_le_mul_left W hp3a
    rw [Nat.mul_add, Nat.mul_one] at h1
    have := hT.1
    omega
  rcases hh with rfl | rfl
  all_goals
    refine jx_aload_n dX0_arrival_0 rfl ?_
    refine jx_iload_n dX0_arrival_1 rfl ?_
    refine jx_aload_n dX0_arrival_2 rfl ?_
    refine jx_getR dX0_arrival_3 flX0_29 rfl rfl hRi ?_
    refine jx_getR dX0_arrival_6 flX0_67 rfl rfl (hR _ _ _ rfl) ?_
    refine jx_iload_n dX0_arrival_9 rfl ?_
    refine jx_aald5N (p) dX0_arrival_10 rfl (rfl) (by omega) (by decide) (hR _ _ _ (by first | exact rtPa _ hp6 | exact rtPb _ hp6)) ?_
    refine jx_getIE dX0_arrival_11 flX0_71 (by first | exact shPa _ hp6 | exact shPb _ hp6) rfl ((hI.2.2.1.2 p 0 hp (by decide)).trans hp0) ?_
    refine jx_iload_n dX0_arrival_14 rfl ?_
    refine jx_aload_n dX0_arrival_15 rfl ?_
    refine jx_getR dX0_arrival_16 flX0_29 rfl rfl hRi ?_
    refine jx_getIE dX0_arrival_19 flX0_57 rfl rfl (hI.2.2.2.1.2.1) ?_
    refine jx_iconst (v := 0) dX0_arrival_22 (by decide) ?_
    refine jx_VRv (as := [.int _, .int _, .int _, .int _, .int _]) dX0_arrival_23 mlX0_76 okX0_prepare viX0_prepare rfl rfl rfl rfl rfl (by decide) (Nat.le_of_ble_eq_true rfl) (tX0_prepare hW hR hC0 (fog := 0) hp (by omega) hd _ (by omega)) (fun t23 hq23 => ?_)
    obtain ⟨J, M, rfl, e1, e2, hC1, hPr⟩ := hq23
    have hpa : 1 ≤ pcOf T p 0 ∧ pcOf T p 0 ≤ 7 := by unfold pcOf paceOf; split <;> omega
    refine jx_aload_n dX0_arrival_26 rfl ?_
    refine jx_iload_n dX0_arrival_27 rfl ?_
    refine jx_VRi (as := [.int _]) dX0_arrival_28 mlX0_80 okX0_firstArrival viX0_firstArrival rfl rfl rfl rfl rfl (by decide) (Nat.le_of_ble_eq_true rfl) (tX0_firstArrival hW hR hC1 hPr hpa.1 hpa.2 hrw ht) (fun x28 t28 hq28 => ?_)
    obtain ⟨rfl, M2, rfl, hM2⟩ := hq28
    refine jx_iret dX0_arrival_31 rfl ?_
    exact ⟨_, rfl, ffa_eq hT.1.1 hT.2.1.1 hrw hpa.1 ht, J, M2, rfl, e1, eqCL_t e2 (fun b j hb => hM2 b j (fun q => by rw [q] at hb; cases hb)), CF_k hC1 (eqC_r J) (fun b j hb => hM2 b j (fun q => by rw [q] at hb; cases hb)) (fun _ => rfl) (fun _ => rfl) (hM2 1040 2 (by decide)), hPr.1, hPr.2.1, fun t ht => (hM2 1043 t (by decide)).trans (hPr.2.2 t ht)⟩
set_option maxHeartbeats 1000000 in
set_option maxRecDepth 20000 in
theorem tX0_arrivalInFog (hW : jWok w l) (hR : RS R) {h : Nat} {T : Nat → Nat → Int32} {W H np len : Nat} (hC : CF I L R h T W H np len) {p day tick : Nat} (hp : p < np) (hd : day ≤ 40) (ht : tick < 96) {fog : Nat} (hf : fog ≤ 3) : jRi w l mX0_arrivalInFog 6 [.ref 1040, .int (nI p), .int (nI day), .int (nI tick), .int (nI fog)] (n, shE, I, L, R) (fun r t => r = aI (arr T W H len day (T 1072 7) p fog tick) ∧ ∃ J M, t = (n, shE, J, M, R) ∧ eqC I J ∧ eqCL L M ∧ CF J M R h T W H np len ∧ Prep J M W H (W * cN (T 1079 p)) (pcOf T p fog) (mP T W H len day (T 1072 7) p)) := by
  refine jRi_of hW (by decide) rfl (Nat.le_of_ble_eq_true rfl) ?_
  have hC0 := hC
  obtain ⟨⟨hh, hRi⟩, hI, hRI, -, -, -⟩ := hC
  have hpp := hRI.2.2.2.2.2.1 p hp
  obtain ⟨⟨hp0, hp0a⟩, ⟨hp1, hp1a, hp1b⟩, ⟨hp2, hp2a⟩, ⟨hp3, hp3a⟩, -, -⟩ := hpp
  have hp6 : p < 6 := Nat.lt_of_lt_of_le hp hRI.2.2.2.2.1.2
  have hT := RI.tq hRI
  have hrw : W * cN (T 1079 p) < W * H := by
    have h1 : W * (cN (T 1079 p) + 1) ≤ W * H := Nat.mul_le_mul_left W hp3a
    rw [Nat.mul_add, Nat.mul_one] at h1
    have := hT.1
    omega
  rcases hh with rfl | rfl
  all_goals
    refine jx_aload_n dX0_arrivalInFog_0 rfl ?_
    refine jx_iload_n dX0_arrivalInFog_1 rfl ?_
    refine jx_aload_n dX0_arrivalInFog_2 rfl ?_
    refine jx_getR dX0_arrivalInFog_3 flX0_29 rfl rfl hRi ?_
    refine jx_getR dX0_arrivalInFog_6 flX0_67 rfl rfl (hR _ _ _ rfl) ?_
    refine jx_iload_n dX0_arrivalInFog_9 rfl ?_
    refine jx_aald5N (p) dX0_arrivalInFog_10 rfl (rfl) (by omega) (by decide) (hR _ _ _ (by first | exact rtPa _ hp6 | exact rtPb _ hp6)) ?_
    refine jx_getIE dX0_arrivalInFog_11 flX0_71 (by first | exact shPa _ hp6 | exact shPb _ hp6) rfl ((hI.2.2.1.2 p 0 hp (by decide)).trans hp0) ?_
    refine jx_iload_n dX0_arrivalInFog_14 rfl ?_
    refine jx_aload_n dX0_arrivalInFog_15 rfl ?_
    refine jx_getR dX0_arrivalInFog_16 flX0_29 rfl rfl hRi ?_
    refine jx_getIE dX0_arrivalInFog_19 flX0_57 rfl rfl (hI.2.2.2.1.2.1) ?_
    refine jx_iload dX0_arrivalInFog_22 rfl ?_
    refine jx_VRv (as := [.int _, .int _, .int _, .int _, .int _]) dX0_arrivalInFog_24 mlX0_76 okX0_prepare viX0_prepare rfl rfl rfl rfl rfl (by decide) (Nat.le_of_ble_eq_true rfl) (tX0_prepare hW hR hC0 (fog := fog) hp (by omega) hd _ hf) (fun t24 hq24 => ?_)
    obtain ⟨J, M, rfl, e1, e2, hC1, hPr⟩ := hq24
    have hpa : 1 ≤ pcOf T p fog ∧ pcOf T p fog ≤ 7 := by unfold pcOf paceOf; split <;> omega
    refine jx_aload_n dX0_arrivalInFog_27 rfl ?_
    refine jx_iload_n dX0_arrivalInFog_28 rfl ?_
    refine jx_VRi (as := [.int _]) dX0_arrivalInFog_29 mlX0_80 okX0_firstArrival viX0_firstArrival rfl rfl rfl rfl rfl (by decide) (Nat.le_of_ble_eq_true rfl) (tX0_firstArrival hW hR hC1 hPr hpa.1 hpa.2 hrw ht) (fun x29 t29 hq29 => ?_)
    obtain ⟨rfl, M2, rfl, hM2⟩ := hq29
    refine jx_iret dX0_arrivalInFog_32 rfl ?_
    exact ⟨_, rfl, ffa_eq hT.1.1 hT.2.1.1 hrw hpa.1 ht, J, M2, rfl, e1, eqCL_t e2 (fun b j hb => hM2 b j (fun q => by rw [q] at hb; cases hb)), CF_k hC1 (eqC_r J) (fun b j hb => hM2 b j (fun q => by rw [q] at hb; cases hb)) (fun _ => rfl) (fun _ => rfl) (hM2 1040 2 (by decide)), hPr.1, hPr.2.1, fun t ht => (hM2 1043 t (by decide)).trans (hPr.2.2 t ht)⟩
set_option maxHeartbeats 1000000 in
set_option maxRecDepth 20000 in
theorem tX0_arrivalInWind (hW : jWok w l) (hR : RS R) {h : Nat} {T : Nat → Nat → Int32} {W H np len : Nat} (hC : CF I L R h T W H np len) {p day tick : Nat} (hp : p < np) (hd : day ≤ 40) (ht : tick < 96) (wind : Int32) : jRi w l mX0_arrivalInWind 6 [.ref 1040, .int (nI p), .int (nI day), .int (nI tick), .int wind] (n, shE, I, L, R) (fun r t => r = aI (arr T W H len day (wind) p 0 tick) ∧ ∃ J M, t = (n, shE, J, M, R) ∧ eqC I J ∧ eqCL L M ∧ CF J M R h T W H np len ∧ Prep J M W H (W * cN (T 1079 p)) (pcOf T p 0) (mP T W H len day (wind) p)) := by
  refine jRi_of hW (by decide) rfl (Nat.le_of_ble_eq_true rfl) ?_
  have hC0 := hC
  obtain ⟨⟨hh, hRi⟩, hI, hRI, -, -, -⟩ := hC
  have hpp := hRI.2.2.2.2.2.1 p hp
  obtain ⟨⟨hp0, hp0a⟩, ⟨hp1, hp1a, hp1b⟩, ⟨hp2, hp2a⟩, ⟨hp3, hp3a⟩, -, -⟩ := hpp
  have hp6 : p < 6 := Nat.lt_of_lt_of_le hp hRI.2.2.2.2.1.2
  have hT := RI.tq hRI
  have hrw : W * cN (T 1079 p) < W * H := by
    have h1 : W * (cN (T 1079 p) + 1) ≤ W * H := Nat.mul_le_mul_left W hp3a
    rw [Nat.mul_add, Nat.mul_one] at h1
    have := hT.1
    omega
  rcases hh with rfl | rfl
  all_goals
    refine jx_aload_n dX0_arrivalInWind_0 rfl ?_
    refine jx_iload_n dX0_arrivalInWind_1 rfl ?_
    refine jx_aload_n dX0_arrivalInWind_2 rfl ?_
    refine jx_getR dX0_arrivalInWind_3 flX0_29 rfl rfl hRi ?_
    refine jx_getR dX0_arrivalInWind_6 flX0_67 rfl rfl (hR _ _ _ rfl) ?_
    refine jx_iload_n dX0_arrivalInWind_9 rfl ?_
    refine jx_aald5N (p) dX0_arrivalInWind_10 rfl (rfl) (by omega) (by decide) (hR _ _ _ (by first | exact rtPa _ hp6 | exact rtPb _ hp6)) ?_
    refine jx_getIE dX0_arrivalInWind_11 flX0_71 (by first | exact shPa _ hp6 | exact shPb _ hp6) rfl ((hI.2.2.1.2 p 0 hp (by decide)).trans hp0) ?_
    refine jx_iload_n dX0_arrivalInWind_14 rfl ?_
    refine jx_iload dX0_arrivalInWind_15 rfl ?_
    refine jx_iconst (v := 0) dX0_arrivalInWind_17 (by decide) ?_
    refine jx_VRv (as := [.int _, .int _, .int _, .int _, .int _]) dX0_arrivalInWind_18 mlX0_76 okX0_prepare viX0_prepare rfl rfl rfl rfl rfl (by decide) (Nat.le_of_ble_eq_true rfl) (tX0_prepare hW hR hC0 (fog := 0) hp (by omega) hd _ (by omega)) (fun t18 hq18 => ?_)
    obtain ⟨J, M, rfl, e1, e2, hC1, hPr⟩ := hq18
    have hpa : 1 ≤ pcOf T p 0 ∧ pcOf T p 0 ≤ 7 := by unfold pcOf paceOf; split <;> omega
    refine jx_aload_n dX0_arrivalInWind_21 rfl ?_
    refine jx_iload_n dX0_arrivalInWind_22 rfl ?_
    refine jx_VRi (as := [.int _]) dX0_arrivalInWind_23 mlX0_80 okX0_firstArrival viX0_firstArrival rfl rfl rfl rfl rfl (by decide) (Nat.le_of_ble_eq_true rfl) (tX0_firstArrival hW hR hC1 hPr hpa.1 hpa.2 hrw ht) (fun x23 t23 hq23 => ?_)
    obtain ⟨rfl, M2, rfl, hM2⟩ := hq23
    refine jx_iret dX0_arrivalInWind_26 rfl ?_
    exact ⟨_, rfl, ffa_eq hT.1.1 hT.2.1.1 hrw hpa.1 ht, J, M2, rfl, e1, eqCL_t e2 (fun b j hb => hM2 b j (fun q => by rw [q] at hb; cases hb)), CF_k hC1 (eqC_r J) (fun b j hb => hM2 b j (fun q => by rw [q] at hb; cases hb)) (fun _ => rfl) (fun _ => rfl) (hM2 1040 2 (by decide)), hPr.1, hPr.2.1, fun t ht => (hM2 1043 t (by decide)).trans (hPr.2.2 t ht)⟩
set_option maxHeartbeats 1000000 in
set_option maxRecDepth 20000 in
theorem tX0_soonest (hW : jWok w l) (hR : RS R) {h : Nat} {T : Nat → Nat → Int32} {W H np len : Nat} (hC : CF I L R h T W H np len) {p day : Nat} (hp : p < np) (hd : day ≤ 40) : jRi w l mX0_soonest 6 [.ref 1040, .int (nI p), .int (nI day)] (n, shE, I, L, R) (fun r t => r = aI (arr T W H len day (T 1072 7) p 0 0) ∧ ∃ J M, t = (n, shE, J, M, R) ∧ eqC I J ∧ eqCL L M ∧ CF J M R h T W H np len) := by
  refine jRi_of hW (by decide) rfl (Nat.le_of_ble_eq_true rfl) ?_
  have hC0 := hC
  obtain ⟨⟨hh, hRi⟩, hI, hRI, -, -, -⟩ := hC
  have hpp := hRI.2.2.2.2.2.1 p hp
  obtain ⟨⟨hp0, hp0a⟩, ⟨hp1, hp1a, hp1b⟩, ⟨hp2, hp2a⟩, ⟨hp3, hp3a⟩, -, -⟩ := hpp
  have hp6 : p < 6 := Nat.lt_of_lt_of_le hp hRI.2.2.2.2.1.2
  have hT := RI.tq hRI
  have hrw : W * cN (T 1079 p) < W * H := by
    have h1 : W * (cN (T 1079 p) + 1) ≤ W * H := Nat.mul_le_mul_left W hp3a
    rw [Nat.mul_add, Nat.mul_one] at h1
    have := hT.1
    omega
  have hsk := hC0.2.2.2.2.2 p day hp hd
  have hsub : ∀ x : Int32, x + 2 - 2 = x := fun x => by rw [Int32.add_sub_cancel]
  rcases hh with rfl | rfl
  all_goals
    refine jx_iload_n dX0_soonest_0 rfl ?_
    refine jx_bipush (v := 41) dX0_soonest_1 (by decide) ?_
    refine jx_imulE (z := nI (p * 41)) dX0_soonest_3 (pk_mul p 41) ?_
    refine jx_iload_n dX0_soonest_4 rfl ?_
    refine jx_iaddE (z := nI ((p * 41) + day)) dX0_soonest_5 (nI_add (p * 41) day) ?_
    refine jx_istore_n dX0_soonest_6 rfl (by decide) ?_
    refine jx_aload_n dX0_soonest_7 rfl ?_
    refine jx_getR dX0_soonest_8 flX0_15 rfl rfl (hR _ _ _ rfl) ?_
    refine jx_iload_n dX0_soonest_11 rfl ?_
    refine jx_ialdN ((p * 41) + day) dX0_soonest_12 rfl (rfl) (by omega) (by omega) ?_
    refine jx_if_ne 55 dX0_soonest_13 (by decide) (fun h13 => ?_) (fun h13 => ?_)
    · refine jx_aload_n dX0_soonest_55 rfl ?_
      refine jx_getR dX0_soonest_56 flX0_15 rfl rfl (hR _ _ _ rfl) ?_
      refine jx_iload_n dX0_soonest_59 rfl ?_
      refine jx_ialdN ((p * 41) + day) dX0_soonest_60 rfl (rfl) (by omega) (by omega) ?_
      refine jx_iconst (v := 2) dX0_soonest_61 (by decide) ?_
      refine jx_isub dX0_soonest_62 ?_
      refine jx_iret dX0_soonest_63 rfl ?_
      refine ⟨_, rfl, ?_, I, L, rfl, eqC_r I, eqCL_r L, hC0⟩
      rcases hsk with q | q
      · exact absurd q h13
      · rw [q]; exact hsub _
    · skip
      refine jx_aload_n dX0_soonest_16 rfl ?_
      refine jx_iload_n dX0_soonest_17 rfl ?_
      refine jx_aload_n dX0_soonest_18 rfl ?_
      refine jx_getR dX0_soonest_19 flX0_29 rfl rfl hRi ?_
      refine jx_getR dX0_soonest_22 flX0_67 rfl rfl (hR _ _ _ rfl) ?_
      refine jx_iload_n dX0_soonest_25 rfl ?_
      refine jx_aald5N (p) dX0_soonest_26 rfl (rfl) (by omega) (by decide) (hR _ _ _ (by first | exact rtPa _ hp6 | exact rtPb _ hp6)) ?_
      refine jx_getIE dX0_soonest_27 flX0_71 (by first | exact shPa _ hp6 | exact shPb _ hp6) rfl ((hI.2.2.1.2 p 0 hp (by decide)).trans hp0) ?_
      refine jx_iload_n dX0_soonest_30 rfl ?_
      refine jx_aload_n dX0_soonest_31 rfl ?_
      refine jx_getR dX0_soonest_32 flX0_29 rfl rfl hRi ?_
      refine jx_getIE dX0_soonest_35 flX0_57 rfl rfl (hI.2.2.2.1.2.1) ?_
      refine jx_iconst (v := 0) dX0_soonest_38 (by decide) ?_
      refine jx_VRv (as := [.int _, .int _, .int _, .int _, .int _]) dX0_soonest_39 mlX0_76 okX0_prepare viX0_prepare rfl rfl rfl rfl rfl (by decide) (Nat.le_of_ble_eq_true rfl) (tX0_prepare hW hR hC0 (fog := 0) hp (by omega) hd _ (by omega)) (fun t39 hq39 => ?_)
      obtain ⟨J, M, rfl, e1, e2, hC1, hPr⟩ := hq39
      have hpa : 1 ≤ pcOf T p 0 ∧ pcOf T p 0 ≤ 7 := by unfold pcOf paceOf; split <;> omega
      refine jx_aload_n dX0_soonest_42 rfl ?_
      refine jx_getR dX0_soonest_43 flX0_15 rfl rfl (hR _ _ _ rfl) ?_
      refine jx_iload_n dX0_soonest_46 rfl ?_
      refine jx_aload_n dX0_soonest_47 rfl ?_
      refine jx_iconst (v := 0) dX0_soonest_48 (by decide) ?_
      refine jx_VRi (as := [.int _]) dX0_soonest_49 mlX0_80 okX0_firstArrival viX0_firstArrival rfl rfl rfl rfl rfl (by decide) (Nat.le_of_ble_eq_true rfl) (tX0_firstArrival (tick := 0) hW hR hC1 hPr hpa.1 hpa.2 hrw (by omega)) (fun x49 t49 hq49 => ?_)
      obtain ⟨rfl, M2, rfl, hM2⟩ := hq49
      refine jx_iconst (v := 2) dX0_soonest_52 (by decide) ?_
      refine jx_iadd dX0_soonest_53 ?_
      refine jx_iastN ((p * 41) + day) dX0_soonest_54 rfl (rfl) (by omega) (by omega) ?_
      refine jx_aload_n dX0_soonest_55 rfl ?_
      refine jx_getR dX0_soonest_56 flX0_15 rfl rfl (hR _ _ _ rfl) ?_
      refine jx_iload_n dX0_soonest_59 rfl ?_
      refine jx_ialdN ((p * 41) + day) dX0_soonest_60 rfl (rfl) (by omega) (by omega) ?_
      refine jx_iconst (v := 2) dX0_soonest_61 (by decide) ?_
      refine jx_isub dX0_soonest_62 ?_
      refine jx_iret dX0_soonest_63 rfl ?_
      refine ⟨_, rfl, ?_, _, M2, rfl, eqC_u e1 rfl, eqCL_t e2 (fun b j hb => hM2 b j (fun q => by rw [q] at hb; cases hb)), CF_e hC1 (eqC_u (eqC_r J) rfl) (fun b j hb => hM2 b j (fun q => by rw [q] at hb; cases hb)) ?_ ?_⟩
      · rw [upI_s]; exact (hsub _).trans (ffa_eq hT.1.1 hT.2.1.1 hrw hpa.1 (by omega))
      · intro d hd4 hb t ht
        rw [hM2 1040 2 (by decide)] at hb
        rw [upI_nea (by decide)]
        exact hC1.2.2.2.2.1 d hd4 hb t ht
      · intro p2 d2 hp2 hd2
        by_cases z : p2 * 41 + d2 = p * 41 + day
        · have z1 : p2 = p ∧ d2 = day := by omega
          rw [z1.1, z1.2, upI_s]
          exact Or.inr (congrArg (fun z => z + 2) (ffa_eq hT.1.1 hT.2.1.1 hrw hpa.1 (by omega)))
        · rw [upI_j z]; exact hC1.2.2.2.2.2 p2 d2 hp2 hd2
end CF1
