/-! THE CLASS: last starts and ways -/
section CG1
variable {w : jWD} {l : Launch} {n : Nat} {I : Nat → Nat → Int32} {L : Nat → Nat → Int64} {R : Nat → Nat → Option Nat}

set_option maxHeartbeats 1000000 in
set_option maxRecDepth 20000 in
theorem tX0_cellsBefore (hW : jWok w l) (hR : RS R) {h : Nat} {T : Nat → Nat → Int32} {W H np len : Nat} (hC : CF I L R h T W H np len) {home pace : Nat} {m : Nat → Nat → Bool} (hP : Prep I L W H home pace m) (hp1 : 1 ≤ pace) (hp7 : pace ≤ 7) {t last : Nat} (ht : t ≤ last) (hl : last < 96) {g : Nat → Nat → Bool} (hg : ∀ t', t < t' → t' ≤ last → L 1044 t' = bs (g t')) (hgl : ∀ t' c, g t' c = true → c < W * H) : jCD w l mX0_cellsBefore 2 [.ref 1040, .int (nI t), .int (nI last)] (n, shE, I, L, R) (some (.long (bs (cbF W H pace m g t last)))) (n, shE, I, L, R) := by
  refine jCD_of hW (by decide) rfl (Nat.le_of_ble_eq_true rfl) ?_
  have hC0 := hC
  have hP0 := hP
  obtain ⟨⟨hh, hRi⟩, hI, hRI, -, -, -⟩ := hC
  have hT := RI.tq hRI
  have hwh : W * H ≤ 63 := Nat.mul_le_mul hT.1.2 hT.2.1.2
  obtain ⟨hP1, hP2, hP3⟩ := hP
  have key : ∀ f : Nat → Bool, (∀ c, f c = (decide (t + 1 ≤ last) && (g (t + 1) c && m c (t + 1)))) → jWP w l mX0_cellsBefore 2 0 0 (fun r t_1 => r = (some (.long (bs (cbF W H pace m g t last)))) ∧ t_1 = (n, shE, I, L, R)) (fun _ _ => False) 27 [(0, .ref 1040), (1, .int (nI t)), (2, .int (nI last)), (3, .long (bs f))] [] (n, shE, I, L, R) := by
    intro f hf
    rcases hh with rfl | rfl
    all_goals
    refine jx_iload_n dX0_cellsBefore_27 rfl ?_
    refine jx_aload_n dX0_cellsBefore_28 rfl ?_
    refine jx_getIE dX0_cellsBefore_29 flX0_106 rfl rfl (hP2) ?_
    refine jx_iaddE (z := nI (t + pace)) dX0_cellsBefore_32 (nI_add t pace) ?_
    refine jx_iload_n dX0_cellsBefore_33 rfl ?_
    refine jx_icmpN_gt (a := (t + pace)) (b := last) 67 dX0_cellsBefore_34 (by decide) (by omega) (by omega) (fun h34 => ?_) (fun h34 => ?_)
    · refine jx_lload_n dX0_cellsBefore_67 rfl ?_
      refine jx_lret dX0_cellsBefore_68 rfl ?_
      refine ⟨congrArg (fun z => some (Value.long z)) ?_, rfl⟩
      first
        | (have h34 : ¬ last < t + pace := by omega
           rw [bs_or]
           refine bs_c (fun c _ => ?_)
           unfold cbF
           rw [hf c, decide_eq_true (show t + pace ≤ last by omega), Bool.true_and]
           congr 2
           exact bes_c (fun q => by
             cases e : g (t + pace) q
             · rfl
             · rw [decide_eq_true (hgl _ _ e)]; rfl) c)
        | (refine bs_c (fun c _ => ?_)
           unfold cbF
           rw [hf c, decide_eq_false (show ¬ t + pace ≤ last by omega), Bool.false_and, Bool.or_false])
    · refine jx_lload_n dX0_cellsBefore_37 rfl ?_
      refine jx_aload_n dX0_cellsBefore_38 rfl ?_
      refine jx_getR dX0_cellsBefore_39 flX0_29 rfl rfl hRi ?_
      refine jx_getR dX0_cellsBefore_42 flX0_87 rfl rfl (hR _ _ _ rfl) ?_
      refine jx_aload_n dX0_cellsBefore_45 rfl ?_
      refine jx_getR dX0_cellsBefore_46 flX0_23 rfl rfl (hR _ _ _ rfl) ?_
      refine jx_iload_n dX0_cellsBefore_49 rfl ?_
      refine jx_aload_n dX0_cellsBefore_50 rfl ?_
      refine jx_getIE dX0_cellsBefore_51 flX0_106 rfl rfl (hP2) ?_
      refine jx_iaddE (z := nI (t + pace)) dX0_cellsBefore_54 (nI_add t pace) ?_
      refine jx_laldE (t + pace) dX0_cellsBefore_55 rfl (rfl) (by omega) (by omega) (hg (t + pace) (by omega) (by omega)) ?_
      refine jx_aload_n dX0_cellsBefore_56 rfl ?_
      refine jx_iload_n dX0_cellsBefore_57 rfl ?_
      refine jx_Vl (as := [.int _]) dX0_cellsBefore_58 mlX0_141 okX0_safeFrom viX0_safeFrom rfl rfl rfl rfl rfl (by decide) (Nat.le_of_ble_eq_true rfl) (tX0_safeFrom hW hR hC0 hP0 hp1 hp7 (tick := t) (by omega)) ?_
      refine jx_landE (z := bs (fun q => g (t + pace) q && (decide (q < W * H) && allS m q t pace))) dX0_cellsBefore_61 (bs_and _ _) ?_
      refine jx_Vl (as := [.long _]) dX0_cellsBefore_62 mlX0_137 okX8_beside viX8_beside rfl rfl rfl rfl rfl (by decide) (Nat.le_of_ble_eq_true rfl) (tX8_beside hW hR (by decide) hI.1 hT (f := fun q => g (t + pace) q && (decide (q < W * H) && allS m q t pace)) (fun c hc => by simp only [Bool.and_eq_true] at hc; exact hgl _ _ hc.1)) ?_
      refine jx_lor dX0_cellsBefore_65 ?_
      refine jx_lstore_n dX0_cellsBefore_66 rfl (by decide) ?_
      refine jx_lload_n dX0_cellsBefore_67 rfl ?_
      refine jx_lret dX0_cellsBefore_68 rfl ?_
      refine ⟨congrArg (fun z => some (Value.long z)) ?_, rfl⟩
      first
        | (have h34 : ¬ last < t + pace := by omega
           rw [bs_or]
           refine bs_c (fun c _ => ?_)
           unfold cbF
           rw [hf c, decide_eq_true (show t + pace ≤ last by omega), Bool.true_and]
           congr 2
           exact bes_c (fun q => by
             cases e : g (t + pace) q
             · rfl
             · rw [decide_eq_true (hgl _ _ e)]; rfl) c)
        | (refine bs_c (fun c _ => ?_)
           unfold cbF
           rw [hf c, decide_eq_false (show ¬ t + pace ≤ last by omega), Bool.false_and, Bool.or_false])
  rcases hh with rfl | rfl
  all_goals
    refine jx_lconst (v := 0) dX0_cellsBefore_0 (by decide) ?_
    refine jx_lstore_n dX0_cellsBefore_1 rfl (by decide) ?_
    refine jx_iload_n dX0_cellsBefore_2 rfl ?_
    refine jx_iconst (v := 1) dX0_cellsBefore_3 (by decide) ?_
    refine jx_iaddE (z := nI (t + 1)) dX0_cellsBefore_4 (nI_add t 1) ?_
    refine jx_iload_n dX0_cellsBefore_5 rfl ?_
    refine jx_icmpN_gt (a := (t + 1)) (b := last) 27 dX0_cellsBefore_6 (by decide) (by omega) (by omega) (fun h6 => ?_) (fun h6 => ?_)
    · have kk := key (fun _ => false) (fun c => by rw [decide_eq_false (show ¬ t + 1 ≤ last by omega)]; rfl)
      rw [← bs_0] at kk
      exact jx_ls (by exact ⟨rfl, rfl, rfl, rfl, trivial⟩) kk
    · skip
      refine jx_aload_n dX0_cellsBefore_9 rfl ?_
      refine jx_getR dX0_cellsBefore_10 flX0_23 rfl rfl (hR _ _ _ rfl) ?_
      refine jx_iload_n dX0_cellsBefore_13 rfl ?_
      refine jx_iconst (v := 1) dX0_cellsBefore_14 (by decide) ?_
      refine jx_iaddE (z := nI (t + 1)) dX0_cellsBefore_15 (nI_add t 1) ?_
      refine jx_laldE (t + 1) dX0_cellsBefore_16 rfl (rfl) (by omega) (by omega) (hg (t + 1) (by omega) (by omega)) ?_
      refine jx_aload_n dX0_cellsBefore_17 rfl ?_
      refine jx_getR dX0_cellsBefore_18 flX0_19 rfl rfl (hR _ _ _ rfl) ?_
      refine jx_iload_n dX0_cellsBefore_21 rfl ?_
      refine jx_iconst (v := 1) dX0_cellsBefore_22 (by decide) ?_
      refine jx_iaddE (z := nI (t + 1)) dX0_cellsBefore_23 (nI_add t 1) ?_
      refine jx_laldE (t + 1) dX0_cellsBefore_24 rfl (rfl) (by omega) (by omega) (hP3 (t + 1) (by omega)) ?_
      refine jx_landE (z := bs (fun c => g (t + 1) c && (decide (c < W * H) && m c (t + 1)))) dX0_cellsBefore_25 (bs_and _ _) ?_
      refine jx_lstore_n dX0_cellsBefore_26 rfl (by decide) ?_
      exact jx_ls (by exact ⟨rfl, rfl, rfl, rfl, trivial⟩) (key (fun c => g (t + 1) c && (decide (c < W * H) && m c (t + 1))) (fun c => by
        rw [decide_eq_true (show t + 1 ≤ last by omega), Bool.true_and]
        cases e : g (t + 1) c
        · rfl
        · rw [decide_eq_true (hgl _ _ e)]; rfl))
set_option maxHeartbeats 1000000 in
set_option maxRecDepth 20000 in
theorem tX0_lastStart (hW : jWok w l) (hR : RS R) {h : Nat} {T : Nat → Nat → Int32} {W H np len : Nat} (hC : CF I L R h T W H np len) {p day : Nat} (hp : p < np) (hd : day ≤ 40) : jRi w l mX0_lastStart 6 [.ref 1040, .int (nI p), .int (nI day)] (n, shE, I, L, R) (fun r t => r = (if NS T W H len day (T 1072 7) p 0 = 0 then -1 else nI (NS T W H len day (T 1072 7) p 0 - 1)) ∧ ∃ J M, t = (n, shE, J, M, R) ∧ eqC I J ∧ eqCL L M ∧ CF J M R h T W H np len) := by
  refine jRi_of hW (by decide) rfl (Nat.le_of_ble_eq_true rfl) ?_
  have hC0 := hC
  obtain ⟨⟨hh, hRi⟩, hI, hRI, -, -, -⟩ := hC
  have hpp := hRI.2.2.2.2.2.1 p hp
  obtain ⟨⟨hp0, hp0a⟩, ⟨hp1, hp1a, hp1b⟩, ⟨hp2, hp2a⟩, ⟨hp3, hp3a⟩, -, -⟩ := hpp
  have hp6 : p < 6 := Nat.lt_of_lt_of_le hp hRI.2.2.2.2.1.2
  have hT := RI.tq hRI
  have hrw : W * cN (T 1079 p) < W * H := by
    have h1 : W * (cN (T 1079 p) + 1) ≤ W * H := Nat.mul_le_mul_left W hp3a
    rw [Nat.mul_add, Nat.mul_one] at h1
    have := hT.1
    omega
  have hwh : W * H ≤ 63 := Nat.mul_le_mul hT.1.2 hT.2.1.2
  have hpa : 1 ≤ pcOf T p 0 ∧ pcOf T p 0 ≤ 7 := by unfold pcOf paceOf; split <;> omega
  have hmn := fun t j (h : t + j < 96) => arr_mono hRI hp (fog := 0) (by omega) day (T 1072 7) j t h
  have hns : ∀ t, t < 96 → arr T W H len day (T 1072 7) p 0 t ≠ 1000 → (∀ j, t < j → j < 96 → arr T W H len day (T 1072 7) p 0 j = 1000) → NS T W H len day (T 1072 7) p 0 = t + 1 := by
    intro t ht h1 h2
    have hbl : ∀ j, j ≤ t → arr T W H len day (T 1072 7) p 0 j ≠ 1000 := fun j hj q => by
      have := hmn j (t - j) (by omega)
      rw [show j + (t - j) = t by omega, q] at this
      have := arr_le T W H len day (T 1072 7) p 0 t
      omega
    unfold NS
    by_cases z : t = 95
    · rw [fnd_none.mpr (fun j hj => decide_eq_false (hbl j (by omega)))]
      rw [z]; rfl
    · rw [fnd_some.mpr ⟨(show t + 1 < 96 by omega), decide_eq_true (h2 (t + 1) (by omega) (by omega)), fun j hj => decide_eq_false (hbl j (by omega))⟩]
      rfl
  have key : ∀ (J : Nat → Nat → Int32) (M0 : Nat → Nat → Int64), eqC I J → eqCL L M0 → CF J M0 R h T W H np len → Prep J M0 W H (W * cN (T 1079 p)) (pcOf T p 0) (mP T W H len day (T 1072 7) p) → ∀ k, k ≤ 96 → ∀ M : Nat → Nat → Int64, (∀ b j, b ≠ 1044 → M b j = M0 b j) → (∀ t', k ≤ t' → t' < 96 → M 1044 t' = bs (canF W H (pcOf T p 0) (mP T W H len day (T 1072 7) p) t')) → (∀ j, k ≤ j → j < 96 → arr T W H len day (T 1072 7) p 0 j = 1000) → jWP w l mX0_lastStart 6 0 0 (fun v t => ∃ r, v = some (.int r) ∧ (r = (if NS T W H len day (T 1072 7) p 0 = 0 then -1 else nI (NS T W H len day (T 1072 7) p 0 - 1)) ∧ ∃ J M, t = (n, shE, J, M, R) ∧ eqC I J ∧ eqCL L M ∧ CF J M R h T W H np len)) (fun _ _ => False) 29 [(0, .ref 1040), (1, .int (nI p)), (2, .int (nI day)), (3, .int (nI k - 1))] [] (n, shE, J, M, R) := by
    intro J M0 e1 e2 hC1 hPr k
    induction k with
    | zero =>
      intro hk M hM hg hz
      have hC2 : CF J M R h T W H np len := CF_k hC1 (eqC_r J) (fun b j hb => hM b j (fun q => by rw [q] at hb; cases hb)) (fun _ => rfl) (fun _ => rfl) (hM 1040 2 (by decide))
      have hN0 : NS T W H len day (T 1072 7) p 0 = 0 := by
        unfold NS
        rw [fnd_some.mpr ⟨(show 0 < 96 by omega), decide_eq_true (hz 0 (by omega) (by omega)), fun j hj => absurd hj (by omega)⟩]
        rfl
      refine jx_iload_n dX0_lastStart_29 rfl ?_
      refine jx_if_lt 81 dX0_lastStart_30 (by decide) (fun h30 => ?_) (fun h30 => ?_)
      · refine jx_iconst (v := -1) dX0_lastStart_81 (by decide) ?_
        refine jx_iret dX0_lastStart_82 rfl ?_
        rw [if_pos hN0]
        exact ⟨_, rfl, rfl, J, M, rfl, e1, eqCL_t e2 (fun b j hb => hM b j (fun q => by rw [q] at hb; cases hb)), hC2⟩
      · exact absurd (by decide) h30
    | succ k ih =>
      intro hk M hM hg hz
      have hC2 : CF J M R h T W H np len := CF_k hC1 (eqC_r J) (fun b j hb => hM b j (fun q => by rw [q] at hb; cases hb)) (fun _ => rfl) (fun _ => rfl) (hM 1040 2 (by decide))
      have hPr2 : Prep J M W H (W * cN (T 1079 p)) (pcOf T p 0) (mP T W H len day (T 1072 7) p) := ⟨hPr.1, hPr.2.1, fun t ht => (hM 1043 t (by decide)).trans (hPr.2.2 t ht)⟩
      have ek : nI (k + 1) - 1 = nI k := by rw [← nI_add, show nI 1 = (1 : Int32) from rfl, Int32.add_sub_cancel]
      rw [ek]
      have hcan : bs (fun c => decide (c < W * H ∧ c % W = W - 1) || cbF W H (pcOf T p 0) (mP T W H len day (T 1072 7) p) (canF W H (pcOf T p 0) (mP T W H len day (T 1072 7) p)) k 95 c) = bs (canF W H (pcOf T p 0) (mP T W H len day (T 1072 7) p) k) := bs_c (fun c _ => can_eq hT.1.1 hT.2.1.1 hpa.1 (by omega))
      rcases hh with rfl | rfl
      all_goals
      refine jx_iload_n dX0_lastStart_29 rfl ?_
      refine jx_ifN_lt (a := k) 81 dX0_lastStart_30 (by decide) (by omega) ?_
      refine jx_aload_n dX0_lastStart_33 rfl ?_
      refine jx_getR dX0_lastStart_34 flX0_29 rfl rfl hRi ?_
      refine jx_getR dX0_lastStart_37 flX0_87 rfl rfl (hR _ _ _ rfl) ?_
      refine jx_getLE dX0_lastStart_40 flX0_91 rfl rfl (hC2.2.1.1.2.2.2.2.2.1.2.2) ?_
      refine jx_aload_n dX0_lastStart_43 rfl ?_
      refine jx_iload_n dX0_lastStart_44 rfl ?_
      refine jx_bipush (v := 95) dX0_lastStart_45 (by decide) ?_
      refine jx_Vl (as := [.int _, .int _]) dX0_lastStart_47 mlX0_96 okX0_cellsBefore viX0_cellsBefore rfl rfl rfl rfl rfl (by decide) (Nat.le_of_ble_eq_true rfl) (tX0_cellsBefore hW hR hC2 hPr2 hpa.1 hpa.2 (t := k) (last := 95) (by omega) (by omega) (g := canF W H (pcOf T p 0) (mP T W H len day (T 1072 7) p)) (fun t' h1 h2 => hg t' (by omega) (by omega)) (fun t' c hc => by unfold canF at hc; simp only [Bool.and_eq_true, decide_eq_true_eq] at hc; exact hc.1)) ?_
      refine jx_lorE (z := bs (canF W H (pcOf T p 0) (mP T W H len day (T 1072 7) p) k)) dX0_lastStart_50 ((bs_or _ _).trans hcan) ?_
      refine jx_lstore dX0_lastStart_51 (by decide) ?_
      refine jx_aload_n dX0_lastStart_53 rfl ?_
      refine jx_getR dX0_lastStart_54 flX0_23 rfl rfl (hR _ _ _ rfl) ?_
      refine jx_iload_n dX0_lastStart_57 rfl ?_
      refine jx_lload dX0_lastStart_58 rfl ?_
      refine jx_lastN (k) dX0_lastStart_60 rfl (rfl) (by omega) (by omega) ?_
      refine jx_lload dX0_lastStart_61 rfl ?_
      refine jx_aload_n dX0_lastStart_63 rfl ?_
      refine jx_getIE dX0_lastStart_64 flX0_100 rfl rfl (hPr2.1) ?_
      refine jx_Ni (as := [.long _, .int _]) dX0_lastStart_67 mlX0_47 okX10_has stX10_has rfl (by decide) (Nat.le_of_ble_eq_true rfl) (tX10_has hW (c := W * cN (T 1079 p)) (by omega) _) ?_
      rw [bt_bs (by omega)]
      refine jx_ifB_eq 75 dX0_lastStart_70 (by decide) (fun h70 => ?_) (fun h70 => ?_)
      · refine jx_iinc dX0_lastStart_75 rfl (v := nI k - 1) (by rw [Int32.sub_eq_add_neg]; rfl) (by decide) ?_
        refine jx_goto 29 dX0_lastStart_78 (by decide) ?_
        have hb := h70
        unfold canF at hb
        rw [decide_eq_true hrw, Bool.true_and] at hb
        have hb2 : arr T W H len day (T 1072 7) p 0 k = 1000 := Classical.not_not.mp (of_decide_eq_false hb)
        refine jx_ls (by exact ⟨rfl, rfl, rfl, rfl, trivial⟩) (ih (by omega) _ (fun b j hb => (upL_nea hb).trans (hM b j hb)) (fun t' h1 h2 => ?_) (fun j h1 h2 => ?_))
        · by_cases z : t' = k
          · rw [z, upL_same]
          · rw [upL_ne (fun q => z q.2)]; exact hg t' (by omega) h2
        · by_cases z : j = k
          · rw [z]; exact hb2
          · exact hz j (by omega) h2
      · refine jx_iload_n dX0_lastStart_73 rfl ?_
        refine jx_iret dX0_lastStart_74 rfl ?_
        have hb := h70
        unfold canF at hb
        rw [decide_eq_true hrw, Bool.true_and] at hb
        have hb2 : arr T W H len day (T 1072 7) p 0 k ≠ 1000 := of_decide_eq_true hb
        have hN := hns k (by omega) hb2 (fun j h1 h2 => hz j (by omega) h2)
        rw [hN, if_neg (by omega)]
        refine ⟨_, rfl, rfl, J, _, rfl, e1, eqCL_u (eqCL_t e2 (fun b j hb => hM b j (fun q => by rw [q] at hb; cases hb))) rfl, CF_k hC2 (eqC_r J) (eqCL_u (eqCL_r M) rfl) (fun _ => rfl) (fun _ => rfl) (upL_nea (by decide))⟩
  rcases hh with rfl | rfl
  all_goals
    refine jx_aload_n dX0_lastStart_0 rfl ?_
    refine jx_iload_n dX0_lastStart_1 rfl ?_
    refine jx_aload_n dX0_lastStart_2 rfl ?_
    refine jx_getR dX0_lastStart_3 flX0_29 rfl rfl hRi ?_
    refine jx_getR dX0_lastStart_6 flX0_67 rfl rfl (hR _ _ _ rfl) ?_
    refine jx_iload_n dX0_lastStart_9 rfl ?_
    refine jx_aald5N (p) dX0_lastStart_10 rfl (rfl) (by omega) (by decide) (hR _ _ _ (by first | exact rtPa _ hp6 | exact rtPb _ hp6)) ?_
    refine jx_getIE dX0_lastStart_11 flX0_71 (by first | exact shPa _ hp6 | exact shPb _ hp6) rfl ((hI.2.2.1.2 p 0 hp (by decide)).trans hp0) ?_
    refine jx_iload_n dX0_lastStart_14 rfl ?_
    refine jx_aload_n dX0_lastStart_15 rfl ?_
    refine jx_getR dX0_lastStart_16 flX0_29 rfl rfl hRi ?_
    refine jx_getIE dX0_lastStart_19 flX0_57 rfl rfl (hI.2.2.2.1.2.1) ?_
    refine jx_iconst (v := 0) dX0_lastStart_22 (by decide) ?_
    refine jx_VRv (as := [.int _, .int _, .int _, .int _, .int _]) dX0_lastStart_23 mlX0_76 okX0_prepare viX0_prepare rfl rfl rfl rfl rfl (by decide) (Nat.le_of_ble_eq_true rfl) (tX0_prepare hW hR hC0 (fog := 0) hp (by omega) hd _ (by omega)) (fun t23 hq23 => ?_)
    obtain ⟨J, M, rfl, e1, e2, hC1, hPr⟩ := hq23
    refine jx_bipush (v := 95) dX0_lastStart_26 (by decide) ?_
    refine jx_istore_n dX0_lastStart_28 rfl (by decide) ?_
    exact jx_ls (by exact ⟨rfl, rfl, rfl, rfl, trivial⟩) (key J M e1 e2 hC1 hPr 96 (by omega) M (fun _ _ _ => rfl) (fun t' h1 h2 => absurd h2 (by omega)) (fun j h1 h2 => absurd h2 (by omega)))
end CG1
