/-! THE CLASS: booking -/
/-- nobody is booked twice -/
def DBk (T : Nat → Nat → Int32) (b : Nat) : Prop := ∀ i j, i < j → j < b → cN (T 1094 i) ≠ cN (T 1094 j)
theorem tb_or : ∀ m, m < 64 → ∀ x, x < 6 → ∀ c, c < 6 → (m ||| (1 <<< x)).testBit c = (m.testBit c || decide (x = c)) := by decide +kernel
theorem pc_or : ∀ m, m < 64 → ∀ x, x < 6 → m.testBit x = false → pc6 (m ||| (1 <<< x)) = pc6 m + 1 := by decide +kernel
theorem an_0 : ∀ m, m < 64 → ∀ f, f < 64 → decide (m &&& f = 0) = !anyN (fun c => m.testBit c && f.testBit c) 6 := by decide +kernel
theorem an_l : ∀ m, m < 64 → ∀ f, f < 64 → m &&& f < 64 := by decide +kernel
theorem thr_bit {T : Nat → Nat → Int32} {W H np b day : Nat} (hB : RK T W H np b) (hn : np ≤ 6) {c : Nat} (hc : c < 6) : ∀ k, k ≤ b → (thr T day k).testBit c = anyN (fun j => onD T day j && decide (cN (T 1094 j) = c)) k
  | 0, _ => by rw [thr, anyN]; exact Nat.zero_testBit c
  | k + 1, hk => by
    have ih := thr_bit (day := day) hB hn hc k (by omega)
    have hw := (hB.2.2 k (by omega)).1.2
    rw [thr, anyN]
    by_cases z : onD T day k = true
    · rw [if_pos z, tb_or _ (thr_lt hB hn day k (by omega)) _ (by omega) c hc, ih, z, Bool.true_and]
    · rw [if_neg z, ih, Bool.eq_false_iff.mpr z, Bool.false_and, Bool.or_false]
theorem thr_cnt {T : Nat → Nat → Int32} {W H np b day : Nat} (hB : RK T W H np b) (hn : np ≤ 6) (hD : DBk T b) : ∀ k, k ≤ b → pc6 (thr T day k) = cntN (onD T day) k
  | 0, _ => by show pc6 0 = 0; decide
  | k + 1, hk => by
    have ih := thr_cnt (day := day) hB hn hD k (by omega)
    have hw := (hB.2.2 k (by omega)).1.2
    rw [thr, cntN]
    by_cases z : onD T day k = true
    · rw [if_pos z, if_pos z, pc_or _ (thr_lt hB hn day k (by omega)) _ (by omega) ?_, ih]
      rw [thr_bit hB hn (by omega) k (by omega)]
      exact anyN_f.mpr (fun j hj => by rw [decide_eq_false (hD j k hj (by omega)), Bool.and_false])
    · rw [if_neg z, if_neg z, ih, Nat.add_zero]
theorem cb_eq {T : Nat → Nat → Int32} {W H np b day p : Nat} (hB : RK T W H np b) (hn : np ≤ 6) (hD : DBk T b) (hf : cN (T 1081 p) < 64) : cbQ T b p day = (!decide (b = 12) && decide (cN (T 1080 p) ≤ day) && !(anyN (fun k => decide (cN (T 1094 k) = p)) b) && decide (pc6 (thr T day b) < cN (T 1072 8)) && decide (thr T day b &&& cN (T 1081 p) = 0)) := by
  unfold cbQ
  rw [thr_cnt hB hn hD b (Nat.le_refl _), an_0 _ (thr_lt hB hn day b (Nat.le_refl _)) _ hf]
  have e : anyN (cbG T p day) b = (anyN (fun k => decide (cN (T 1094 k) = p)) b || anyN (fun c => (thr T day b).testBit c && (cN (T 1081 p)).testBit c) 6) := by
    rw [Bool.eq_iff_iff, Bool.or_eq_true, anyN_iff, anyN_iff, anyN_iff]
    constructor
    · rintro ⟨k, hk, h⟩
      unfold cbG at h
      simp only [Bool.or_eq_true, Bool.and_eq_true, decide_eq_true_eq] at h
      rcases h with h | ⟨h1, h2⟩
      · exact Or.inl ⟨k, hk, decide_eq_true h⟩
      · have hw := (hB.2.2 k hk).1.2
        refine Or.inr ⟨cN (T 1094 k), by omega, ?_⟩
        rw [thr_bit hB hn (by omega) b (Nat.le_refl _), h2, Bool.and_true]
        exact anyN_of (k := k) (g := fun j => onD T day j && decide (cN (T 1094 j) = cN (T 1094 k))) (by show (onD T day k && decide _) = true; rw [show onD T day k = true from decide_eq_true h1, decide_eq_true rfl]; rfl) hk
    · rintro (⟨k, hk, h⟩ | ⟨c, hc, h⟩)
      · refine ⟨k, hk, ?_⟩
        unfold cbG
        rw [h]; rfl
      · rw [thr_bit hB hn hc b (Nat.le_refl _)] at h
        simp only [Bool.and_eq_true] at h
        obtain ⟨k, hk, h3⟩ := anyN_iff.mp h.1
        simp only [Bool.and_eq_true, decide_eq_true_eq] at h3
        refine ⟨k, hk, ?_⟩
        unfold cbG
        rw [h3.2, h.2]
        have : onD T day k = true := h3.1
        unfold onD at this
        rw [this]; simp
  rw [e]
  cases decide (b = 12) <;> cases decide (cN (T 1080 p) ≤ day) <;> cases anyN (fun k => decide (cN (T 1094 k) = p)) b <;> cases decide (cntN (onD T day) b < cN (T 1072 8)) <;> cases anyN (fun c => (thr T day b).testBit c && (cN (T 1081 p)).testBit c) 6 <;> rfl
theorem LBk_e {I J T : Nat → Nat → Int32} {W H np b : Nat} (h : LBk I T W H np b) (e : ∀ a j, 1051 ≤ a → a ≤ 1056 → J a j = I a j) : LBk J T W H np b :=
  ⟨(e _ _ (by omega) (by omega)).trans h.1, h.2.1, fun i hi => by
    obtain ⟨c1, c2, c3, c4, c5⟩ := h.2.2 i hi
    exact ⟨(e _ _ (by omega) (by omega)).trans c1, (e _ _ (by omega) (by omega)).trans c2, (e _ _ (by omega) (by omega)).trans c3, (e _ _ (by omega) (by omega)).trans c4, fun t h1 h2 => (e _ _ (by omega) (by omega)).trans (c5 t h1 h2)⟩⟩
theorem eqC_g {I J : Nat → Nat → Int32} (h : eqC I J) : ∀ a j, 1043 ≤ a → J a j = I a j := fun a j ha => h a j (decide_eq_false (by omega))
section CU1
variable {w : jWD} {l : Launch} {n : Nat} {I : Nat → Nat → Int32} {L : Nat → Nat → Int64} {R : Nat → Nat → Option Nat}

set_option maxHeartbeats 1000000 in
set_option maxRecDepth 20000 in
theorem tX10_mayBook (hW : jWok w l) (hR : RS R) {h : Nat} {T : Nat → Nat → Int32} {W H np len : Nat} (hX : CX I L R h T W H np len) {b : Nat} (hB : LBk I T W H np b) (hD : DBk T b) {p day : Nat} (hp : p < np) (hd : day ≤ 40) : jCD w l mX10_mayBook 2 [.ref 1000, .int (nI p), .int (nI day)] (n, shE, I, L, R) (some (.int (jb (cbQ T b p day)))) (n, shE, I, L, R) := by
  refine jCD_of hW (by decide) rfl (Nat.le_of_ble_eq_true rfl) ?_
  have hB0 := hB
  obtain ⟨⟨⟨hh, hRi⟩, hI, hRI, -, -, -⟩, hRh⟩ := hX
  have hT := RI.tq hRI
  have hw := hT.1
  have hhh := hT.2.1
  have hwh : W * H ≤ 63 := Nat.mul_le_mul hw.2 hhh.2
  obtain ⟨hbc, hRK, hbi⟩ := hB
  have hb12 := hRK.2.1
  have hbk := hRK.2.2
  have hn6 := hRI.2.2.2.2.1.2
  have hp6 : p < 6 := Nat.lt_of_lt_of_le hp hn6
  have hpp := hRI.2.2.2.2.2.1 p hp
  have hdd := hpp.2.2.2.2.1
  have hff := hpp.2.2.2.2.2
  have hdd2 := hdd.2
  have hff2 := hff.2
  have heb := hRI.2.2.2.1.2.1
  have heb2 := heb.2.2
  have htl := thr_lt hRK hn6 day b (Nat.le_refl _)
  have hpc := pc6_le (thr T day b)
  have hal := an_l _ htl _ hff2
  rw [cb_eq hRK hn6 hD hff2]
  rcases hh with rfl | rfl
  all_goals
    refine jx_aload_n dX10_mayBook_0 rfl ?_
    refine jx_getR dX10_mayBook_1 flX10_60 rfl rfl (hR _ _ _ rfl) ?_
    refine jx_getIE dX10_mayBook_4 flX10_101 rfl rfl (hbc) ?_
    refine jx_bipush (v := 12) dX10_mayBook_7 (by decide) ?_
    refine jx_icmpN_ge (a := b) (b := 12) 39 dX10_mayBook_9 (by decide) (by omega) (by omega) (fun h9 => ?_) (fun h9 => ?_)
    · refine jx_iconst (v := 0) dX10_mayBook_39 (by decide) ?_
      refine jx_zret dX10_mayBook_40 rfl ?_ ?_
      · first | exact Or.inl rfl | exact Or.inr rfl | exact jb_or _
      refine ⟨congrArg (fun z => some (Value.int z)) ?_, rfl⟩
      first
        | (rw [decide_eq_true (show b = 12 by omega)]; rfl)
        | (rw [decide_eq_false (show ¬ cN (T 1080 p) ≤ day by omega), Bool.and_false]; rfl)
        | (rw [h36, Bool.not_true, Bool.and_false]; rfl)
        | (rw [decide_eq_false (show ¬ pc6 (thr T day b) < cN (T 1072 8) by omega), Bool.and_false]; rfl)
        | (rw [decide_eq_false h78, Bool.and_false]; rfl)
    · refine jx_iload_n dX10_mayBook_12 rfl ?_
      refine jx_aload_n dX10_mayBook_13 rfl ?_
      refine jx_getR dX10_mayBook_14 flX10_32 rfl rfl hRh ?_
      refine jx_getR dX10_mayBook_17 flX10_191 rfl rfl (hR _ _ _ rfl) ?_
      refine jx_iload_n dX10_mayBook_20 rfl ?_
      refine jx_aald5N (p) dX10_mayBook_21 rfl (rfl) (by omega) (by decide) (hR _ _ _ (by first | exact rtPa _ hp6 | exact rtPb _ hp6)) ?_
      refine jx_getIE dX10_mayBook_22 flX10_209 (by first | exact shPa _ hp6 | exact shPb _ hp6) rfl ((hI.2.2.1.2 p 4 hp (by decide)).trans hdd.1) ?_
      refine jx_icmpN_lt (a := day) (b := (cN (T 1080 p))) 39 dX10_mayBook_25 (by decide) (by omega) (by omega) (fun h25 => ?_) (fun h25 => ?_)
      · refine jx_iconst (v := 0) dX10_mayBook_39 (by decide) ?_
        refine jx_zret dX10_mayBook_40 rfl ?_ ?_
        · first | exact Or.inl rfl | exact Or.inr rfl | exact jb_or _
        refine ⟨congrArg (fun z => some (Value.int z)) ?_, rfl⟩
        first
          | (rw [decide_eq_true (show b = 12 by omega)]; rfl)
          | (rw [decide_eq_false (show ¬ cN (T 1080 p) ≤ day by omega), Bool.and_false]; rfl)
          | (rw [h36, Bool.not_true, Bool.and_false]; rfl)
          | (rw [decide_eq_false (show ¬ pc6 (thr T day b) < cN (T 1072 8) by omega), Bool.and_false]; rfl)
          | (rw [decide_eq_false h78, Bool.and_false]; rfl)
      · refine jx_aload_n dX10_mayBook_28 rfl ?_
        refine jx_getR dX10_mayBook_29 flX10_60 rfl rfl (hR _ _ _ rfl) ?_
        refine jx_iload_n dX10_mayBook_32 rfl ?_
        refine jx_Vi (as := [.int _]) dX10_mayBook_33 mlX10_387 okX2_hasParty viX2_hasParty rfl rfl rfl rfl rfl (by decide) (Nat.le_of_ble_eq_true rfl) (tX2_hasParty hW hR hB0 hp6 hn6) ?_
        refine jx_ifB_eq 41 dX10_mayBook_36 (by decide) (fun h36 => ?_) (fun h36 => ?_)
        · refine jx_aload_n dX10_mayBook_41 rfl ?_
          refine jx_getR dX10_mayBook_42 flX10_60 rfl rfl (hR _ _ _ rfl) ?_
          refine jx_iload_n dX10_mayBook_45 rfl ?_
          refine jx_Vi (as := [.int _]) dX10_mayBook_46 mlX10_295 okX2_partiesOn viX2_partiesOn rfl rfl rfl rfl rfl (by decide) (Nat.le_of_ble_eq_true rfl) (tX2_partiesOn hW hR hB0 hd hn6) ?_
          refine jx_istore_n dX10_mayBook_49 rfl (by decide) ?_
          refine jx_iload_n dX10_mayBook_50 rfl ?_
          refine jx_Si (as := [.int _]) dX10_mayBook_51 mlX10_298 okJ6_bitCount_0f7a4 stJ6_bitCount_0f7a4 rfl rfl (by decide) (Nat.le_of_ble_eq_true rfl) (tJ6_bitCount hW htl _) ?_
          refine jx_aload_n dX10_mayBook_54 rfl ?_
          refine jx_getR dX10_mayBook_55 flX10_32 rfl rfl hRh ?_
          refine jx_getIE dX10_mayBook_58 flX10_138 rfl rfl (hI.2.2.2.1.2.2.1.trans heb.1) ?_
          refine jx_icmpN_ge (a := (pc6 (thr T day b))) (b := (cN (T 1072 8))) 85 dX10_mayBook_61 (by decide) (by omega) (by omega) (fun h61 => ?_) (fun h61 => ?_)
          · refine jx_iconst (v := 0) dX10_mayBook_85 (by decide) ?_
            refine jx_zret dX10_mayBook_86 rfl ?_ ?_
            · first | exact Or.inl rfl | exact Or.inr rfl | exact jb_or _
            refine ⟨congrArg (fun z => some (Value.int z)) ?_, rfl⟩
            first
              | (rw [decide_eq_true (show b = 12 by omega)]; rfl)
              | (rw [decide_eq_false (show ¬ cN (T 1080 p) ≤ day by omega), Bool.and_false]; rfl)
              | (rw [h36, Bool.not_true, Bool.and_false]; rfl)
              | (rw [decide_eq_false (show ¬ pc6 (thr T day b) < cN (T 1072 8) by omega), Bool.and_false]; rfl)
              | (rw [decide_eq_false h78, Bool.and_false]; rfl)
          · refine jx_iload_n dX10_mayBook_64 rfl ?_
            refine jx_aload_n dX10_mayBook_65 rfl ?_
            refine jx_getR dX10_mayBook_66 flX10_32 rfl rfl hRh ?_
            refine jx_getR dX10_mayBook_69 flX10_191 rfl rfl (hR _ _ _ rfl) ?_
            refine jx_iload_n dX10_mayBook_72 rfl ?_
            refine jx_aald5N (p) dX10_mayBook_73 rfl (rfl) (by omega) (by decide) (hR _ _ _ (by first | exact rtPa _ hp6 | exact rtPb _ hp6)) ?_
            refine jx_getIE dX10_mayBook_74 flX10_212 (by first | exact shPa _ hp6 | exact shPb _ hp6) rfl ((hI.2.2.1.2 p 5 hp (by decide)).trans hff.1) ?_
            refine jx_iandE (z := nI (thr T day b &&& cN (T 1081 p))) dX10_mayBook_77 (and64 _ htl _ hff2) ?_
            refine jx_ifN_ne (a := (thr T day b &&& cN (T 1081 p))) 85 dX10_mayBook_78 (by decide) (by omega) (fun h78 => ?_) (fun h78 => ?_)
            · refine jx_iconst (v := 0) dX10_mayBook_85 (by decide) ?_
              refine jx_zret dX10_mayBook_86 rfl ?_ ?_
              · first | exact Or.inl rfl | exact Or.inr rfl | exact jb_or _
              refine ⟨congrArg (fun z => some (Value.int z)) ?_, rfl⟩
              first
                | (rw [decide_eq_true (show b = 12 by omega)]; rfl)
                | (rw [decide_eq_false (show ¬ cN (T 1080 p) ≤ day by omega), Bool.and_false]; rfl)
                | (rw [h36, Bool.not_true, Bool.and_false]; rfl)
                | (rw [decide_eq_false (show ¬ pc6 (thr T day b) < cN (T 1072 8) by omega), Bool.and_false]; rfl)
                | (rw [decide_eq_false h78, Bool.and_false]; rfl)
            · refine jx_iconst (v := 1) dX10_mayBook_81 (by decide) ?_
              refine jx_goto 86 dX10_mayBook_82 (by decide) ?_
              refine jx_zret dX10_mayBook_86 rfl ?_ ?_
              · first | exact Or.inl rfl | exact Or.inr rfl | exact jb_or _
              refine ⟨congrArg (fun z => some (Value.int z)) ?_, rfl⟩
              rw [decide_eq_false (show ¬ b = 12 by omega), decide_eq_true (show cN (T 1080 p) ≤ day by omega), h36, decide_eq_true h61, decide_eq_true h78]; rfl
        · refine jx_iconst (v := 0) dX10_mayBook_39 (by decide) ?_
          refine jx_zret dX10_mayBook_40 rfl ?_ ?_
          · first | exact Or.inl rfl | exact Or.inr rfl | exact jb_or _
          refine ⟨congrArg (fun z => some (Value.int z)) ?_, rfl⟩
          first
            | (rw [decide_eq_true (show b = 12 by omega)]; rfl)
            | (rw [decide_eq_false (show ¬ cN (T 1080 p) ≤ day by omega), Bool.and_false]; rfl)
            | (rw [h36, Bool.not_true, Bool.and_false]; rfl)
            | (rw [decide_eq_false (show ¬ pc6 (thr T day b) < cN (T 1072 8) by omega), Bool.and_false]; rfl)
            | (rw [decide_eq_false h78, Bool.and_false]; rfl)
set_option maxHeartbeats 1000000 in
set_option maxRecDepth 20000 in
theorem tX10_book (hW : jWok w l) (hR : RS R) {h : Nat} {T : Nat → Nat → Int32} {W H np len : Nat} (hX : CX I L R h T W H np len) {b : Nat} (hB : LBk I T W H np b) (hD : DBk T b) {p day tick : Nat} (hp : p < np) (hd : day ≤ 40) (ht : tick < 96) : jRi w l mX10_book 7 [.ref 1000, .int (nI p), .int (nI day), .int (nI tick)] (n, shE, I, L, R) (fun r t => r = (if arr T W H len day (T 1072 7) p 0 tick = 1000 ∨ cbQ T b p day = false then -1 else nI (b + 1)) ∧ ∃ J M, eqC I J ∧ eqCL L M ∧ (arr T W H len day (T 1072 7) p 0 tick = 1000 ∨ cbQ T b p day = false → t = (n, shE, upI J 1059 1 (J 1059 1 + 1), M, R) ∧ CX (upI J 1059 1 (J 1059 1 + 1)) M R h T W H np len) ∧ (¬ (arr T W H len day (T 1072 7) p 0 tick = 1000 ∨ cbQ T b p day = false) → tick ≤ arr T W H len day (T 1072 7) p 0 tick ∧ arr T W H len day (T 1072 7) p 0 tick < 96 ∧ b < 12 ∧ t = (n, shE, upI (flo (upI (upI (upI (upI J 1052 b (nI p)) 1053 b (nI day)) 1054 b (nI tick)) 1055 b (nI (arr T W H len day (T 1072 7) p 0 tick))) 1056 (b * 96 + tick) (wyF T W H len day (T 1072 7) p tick) (arr T W H len day (T 1072 7) p 0 tick - tick + 1)) 1051 5 (nI (b + 1)), M, R) ∧ CX (upI (flo (upI (upI (upI (upI J 1052 b (nI p)) 1053 b (nI day)) 1054 b (nI tick)) 1055 b (nI (arr T W H len day (T 1072 7) p 0 tick))) 1056 (b * 96 + tick) (wyF T W H len day (T 1072 7) p tick) (arr T W H len day (T 1072 7) p 0 tick - tick + 1)) 1051 5 (nI (b + 1))) M R h T W H np len)) := by
  refine jRi_of hW (by decide) rfl (Nat.le_of_ble_eq_true rfl) ?_
  have hX0 := hX
  obtain ⟨⟨⟨hh, hRi⟩, hI, hRI, hok, hFL, hSK⟩, hRh⟩ := hX
  have hb12 := hB.2.1.2.1
  have hT := RI.tq hRI
  have hpp := hRI.2.2.2.2.2.1 p hp
  have hrw : W * cN (T 1079 p) < W * H := by
    have h1 : W * (cN (T 1079 p) + 1) ≤ W * H := Nat.mul_le_mul_left W hpp.2.2.2.1.2
    rw [Nat.mul_add, Nat.mul_one] at h1
    have := hT.1
    omega
  have hpa : 1 ≤ pcOf T p 0 ∧ pcOf T p 0 ≤ 7 := by
    obtain ⟨⟨-, a1⟩, ⟨-, a2, a3⟩, -⟩ := hpp
    unfold pcOf paceOf; split <;> omega
  have hal := arr_le T W H len day (T 1072 7) p 0 tick
  have ham := aI_m (v := arr T W H len day (T 1072 7) p 0 tick) (by omega)
  refine jx_aload_n dX10_book_0 rfl ?_
  refine jx_iload_n dX10_book_1 rfl ?_
  refine jx_iload_n dX10_book_2 rfl ?_
  refine jx_iload_n dX10_book_3 rfl ?_
  refine jx_Vv (as := [.int _, .int _, .int _]) dX10_book_4 mlX10_225 okX10_needStart viX10_needStart rfl rfl rfl rfl rfl (by decide) (Nat.le_of_ble_eq_true rfl) (tX10_needStart hW hR hX0 hp (by omega) ht) ?_
  refine jx_aload_n dX10_book_7 rfl ?_
  refine jx_getR dX10_book_8 flX10_44 rfl rfl (hR _ _ _ rfl) ?_
  refine jx_iload_n dX10_book_11 rfl ?_
  refine jx_iload_n dX10_book_12 rfl ?_
  refine jx_iload_n dX10_book_13 rfl ?_
  refine jx_VRi (as := [.int _, .int _, .int _]) dX10_book_14 mlX10_229 okX0_arrival viX0_arrival rfl rfl rfl rfl rfl (by decide) (Nat.le_of_ble_eq_true rfl) (tX0_arrival hW hR hX0.1 hp hd ht) (fun x14 t14 hq14 => ?_)
  obtain ⟨rfl, J, M, rfl, e1, e2, hC, hPr⟩ := hq14
  have hBJ := LBk_e hB (fun a j h1 h2 => eqC_g e1 a j (by omega))
  refine jx_istore dX10_book_17 (by decide) ?_
  refine jx_iload dX10_book_19 rfl ?_
  refine jx_iconst (v := -1) dX10_book_21 (by decide) ?_
  refine jx_icmp_eq 34 dX10_book_22 (by decide) (fun h22 => ?_) (fun h22 => ?_)
  · refine jx_aload_n dX10_book_34 rfl ?_
    refine jx_getR dX10_book_35 flX10_60 rfl rfl (hR _ _ _ rfl) ?_
    refine jx_getR dX10_book_38 flX10_95 rfl rfl (hR _ _ _ rfl) ?_
    refine jx_iconst (v := 1) dX10_book_41 (by decide) ?_
    refine jx_dup2 dX10_book_42 rfl rfl ?_
    refine jx_ialdN (1) dX10_book_43 rfl (rfl) (by omega) (by omega) ?_
    refine jx_iconst (v := 1) dX10_book_44 (by decide) ?_
    refine jx_iadd dX10_book_45 ?_
    refine jx_iastN (1) dX10_book_46 rfl (rfl) (by omega) (by omega) ?_
    refine jx_iconst (v := -1) dX10_book_47 (by decide) ?_
    refine jx_iret dX10_book_48 rfl ?_
    have hcd : arr T W H len day (T 1072 7) p 0 tick = 1000 ∨ cbQ T b p day = false := by first | exact Or.inl (ham.mp h22) | exact Or.inr h31
    rw [if_pos hcd]
    exact ⟨_, rfl, rfl, J, M, e1, e2, fun _ => ⟨rfl, CF_o hC (fun a j h1 h2 _ _ _ => upI_nea (by omega)) (fun _ _ _ _ => rfl), hRh⟩, fun q => absurd hcd q⟩
  · refine jx_aload_n dX10_book_25 rfl ?_
    refine jx_iload_n dX10_book_26 rfl ?_
    refine jx_iload_n dX10_book_27 rfl ?_
    refine jx_Vi (as := [.int _, .int _]) dX10_book_28 mlX10_252 okX10_mayBook viX10_mayBook rfl rfl rfl rfl rfl (by decide) (Nat.le_of_ble_eq_true rfl) (tX10_mayBook hW hR ⟨hC, hRh⟩ hBJ hD hp hd) ?_
    refine jx_ifB_ne 49 dX10_book_31 (by decide) (fun h31 => ?_) (fun h31 => ?_)
    · have hne : ¬ arr T W H len day (T 1072 7) p 0 tick = 1000 := fun q => h22 (ham.mpr q)
      have hge : tick ≤ arr T W H len day (T 1072 7) p 0 tick := sn_ge hpa.1 _ _ tick ht rfl
      have hlt : arr T W H len day (T 1072 7) p 0 tick < 96 := sn_last hpa.1 _ _ tick ht rfl hne
      have hb11 : b < 12 := by
        have q := h31
        unfold cbQ at q
        by_cases z : b = 12
        · rw [decide_eq_true z] at q; cases q
        · omega
      have hnc : ¬ (arr T W H len day (T 1072 7) p 0 tick = 1000 ∨ cbQ T b p day = false) := fun q => by
        rcases q with q | q
        · exact hne q
        · rw [q] at h31; cases h31
      have hC5 : CF (upI (upI (upI (upI J 1052 b (nI p)) 1053 b (nI day)) 1054 b (nI tick)) 1055 b (nI (arr T W H len day (T 1072 7) p 0 tick))) M R h T W H np len := CF_o hC (fun a j h1 h2 _ _ _ => by rw [upI_nea (by omega), upI_nea (by omega), upI_nea (by omega), upI_nea (by omega)]) (fun _ _ _ _ => rfl)
      have hPr5 : Prep (upI (upI (upI (upI J 1052 b (nI p)) 1053 b (nI day)) 1054 b (nI tick)) 1055 b (nI (arr T W H len day (T 1072 7) p 0 tick))) M W H (W * cN (T 1079 p)) (pcOf T p 0) (mP T W H len day (T 1072 7) p) := ⟨by rw [upI_nea (by decide), upI_nea (by decide), upI_nea (by decide), upI_nea (by decide)]; exact hPr.1, by rw [upI_nea (by decide), upI_nea (by decide), upI_nea (by decide), upI_nea (by decide)]; exact hPr.2.1, hPr.2.2⟩
      rw [aI_v hne]
      refine jx_aload_n dX10_book_49 rfl ?_
      refine jx_getR dX10_book_50 flX10_60 rfl rfl (hR _ _ _ rfl) ?_
      refine jx_getIE dX10_book_53 flX10_101 rfl rfl (hBJ.1) ?_
      refine jx_istore dX10_book_56 (by decide) ?_
      refine jx_aload_n dX10_book_58 rfl ?_
      refine jx_getR dX10_book_59 flX10_60 rfl rfl (hR _ _ _ rfl) ?_
      refine jx_getR dX10_book_62 flX10_256 rfl rfl (hR _ _ _ rfl) ?_
      refine jx_iload dX10_book_65 rfl ?_
      refine jx_iload_n dX10_book_67 rfl ?_
      refine jx_iastN (b) dX10_book_68 rfl (rfl) (by omega) (by omega) ?_
      refine jx_aload_n dX10_book_69 rfl ?_
      refine jx_getR dX10_book_70 flX10_60 rfl rfl (hR _ _ _ rfl) ?_
      refine jx_getR dX10_book_73 flX10_259 rfl rfl (hR _ _ _ rfl) ?_
      refine jx_iload dX10_book_76 rfl ?_
      refine jx_iload_n dX10_book_78 rfl ?_
      refine jx_iastN (b) dX10_book_79 rfl (rfl) (by omega) (by omega) ?_
      refine jx_aload_n dX10_book_80 rfl ?_
      refine jx_getR dX10_book_81 flX10_60 rfl rfl (hR _ _ _ rfl) ?_
      refine jx_getR dX10_book_84 flX10_262 rfl rfl (hR _ _ _ rfl) ?_
      refine jx_iload dX10_book_87 rfl ?_
      refine jx_iload_n dX10_book_89 rfl ?_
      refine jx_iastN (b) dX10_book_90 rfl (rfl) (by omega) (by omega) ?_
      refine jx_aload_n dX10_book_91 rfl ?_
      refine jx_getR dX10_book_92 flX10_60 rfl rfl (hR _ _ _ rfl) ?_
      refine jx_getR dX10_book_95 flX10_265 rfl rfl (hR _ _ _ rfl) ?_
      refine jx_iload dX10_book_98 rfl ?_
      refine jx_iload dX10_book_100 rfl ?_
      refine jx_iastN (b) dX10_book_102 rfl (rfl) (by omega) (by omega) ?_
      refine jx_aload_n dX10_book_103 rfl ?_
      refine jx_getR dX10_book_104 flX10_44 rfl rfl (hR _ _ _ rfl) ?_
      refine jx_iload_n dX10_book_107 rfl ?_
      refine jx_iload dX10_book_108 rfl ?_
      refine jx_aload_n dX10_book_110 rfl ?_
      refine jx_getR dX10_book_111 flX10_60 rfl rfl (hR _ _ _ rfl) ?_
      refine jx_getR dX10_book_114 flX10_268 rfl rfl (hR _ _ _ rfl) ?_
      refine jx_iload dX10_book_117 rfl ?_
      refine jx_bipush (v := 96) dX10_book_119 (by decide) ?_
      refine jx_imulE (z := nI (b * 96)) dX10_book_121 (pk_mul b 96) ?_
      refine jx_VRv (as := [.int _, .int _, .ref _, .int _]) dX10_book_122 mlX10_233 okX0_trace viX0_trace rfl rfl rfl rfl rfl (by decide) (Nat.le_of_ble_eq_true rfl) (tX0_trace hW hR hC5 hPr5 hpa.1 hpa.2 hrw (base := b * 96) (a := 1056) (N := 1152) hge hlt rfl (by decide) rfl (by omega) (by decide)) (fun t122 hq122 => ?_)
      obtain ⟨M2, rfl, hM2⟩ := hq122
      refine jx_aload_n dX10_book_125 rfl ?_
      refine jx_getR dX10_book_126 flX10_60 rfl rfl (hR _ _ _ rfl) ?_
      refine jx_iload dX10_book_129 rfl ?_
      refine jx_iconst (v := 1) dX10_book_131 (by decide) ?_
      refine jx_iaddE (z := nI (b + 1)) dX10_book_132 (nI_add b 1) ?_
      refine jx_putI dX10_book_133 flX10_101 rfl rfl (fun r h => by cases h; rfl) ?_
      refine jx_aload_n dX10_book_136 rfl ?_
      refine jx_getR dX10_book_137 flX10_60 rfl rfl (hR _ _ _ rfl) ?_
      refine jx_getI dX10_book_140 flX10_101 rfl rfl ?_
      refine jx_iret dX10_book_143 rfl ?_
      rw [if_neg hnc]
      refine ⟨_, rfl, ?_, J, M2, e1, eqCL_t e2 (fun b j hb => hM2 b j (fun q => by rw [q] at hb; cases hb)), fun q => absurd q hnc, fun _ => ⟨hge, hlt, hb11, rfl, ?_, hRh⟩⟩
      · first | rfl | exact upI_s
      · exact CF_o hC (fun a j h1 h2 _ _ _ => by rw [upI_nea (by omega), flo_ne (by omega), upI_nea (by omega), upI_nea (by omega), upI_nea (by omega), upI_nea (by omega)]) (fun a j h1 h2 => hM2 a j (by omega))
    · refine jx_aload_n dX10_book_34 rfl ?_
      refine jx_getR dX10_book_35 flX10_60 rfl rfl (hR _ _ _ rfl) ?_
      refine jx_getR dX10_book_38 flX10_95 rfl rfl (hR _ _ _ rfl) ?_
      refine jx_iconst (v := 1) dX10_book_41 (by decide) ?_
      refine jx_dup2 dX10_book_42 rfl rfl ?_
      refine jx_ialdN (1) dX10_book_43 rfl (rfl) (by omega) (by omega) ?_
      refine jx_iconst (v := 1) dX10_book_44 (by decide) ?_
      refine jx_iadd dX10_book_45 ?_
      refine jx_iastN (1) dX10_book_46 rfl (rfl) (by omega) (by omega) ?_
      refine jx_iconst (v := -1) dX10_book_47 (by decide) ?_
      refine jx_iret dX10_book_48 rfl ?_
      have hcd : arr T W H len day (T 1072 7) p 0 tick = 1000 ∨ cbQ T b p day = false := by first | exact Or.inl (ham.mp h22) | exact Or.inr h31
      rw [if_pos hcd]
      exact ⟨_, rfl, rfl, J, M, e1, e2, fun _ => ⟨rfl, CF_o hC (fun a j h1 h2 _ _ _ => upI_nea (by omega)) (fun _ _ _ _ => rfl), hRh⟩, fun q => absurd hcd q⟩
set_option maxHeartbeats 1000000 in
set_option maxRecDepth 20000 in
theorem tX10_bookF (hW : jWok w l) (hR : RS R) {h : Nat} {T : Nat → Nat → Int32} {W H np len : Nat} (hX : CX I L R h T W H np len) (p day tick : Int32) (hbad : ¬ (ltQ p np = true ∧ dayQ day = true ∧ tickQ tick = true)) : jTh w l mX10_book 3 [.ref 1000, .int p, .int day, .int tick] n I L R eN := by
  refine jTh_of hW (by decide) rfl (Nat.le_of_ble_eq_true rfl) ?_
  refine jx_aload_n dX10_book_0 rfl ?_
  refine jx_iload_n dX10_book_1 rfl ?_
  refine jx_iload_n dX10_book_2 rfl ?_
  refine jx_iload_n dX10_book_3 rfl ?_
  exact jx_VT (as := [.int _, .int _, .int _]) dX10_book_4 mlX10_225 okX10_needStart viX10_needStart rfl rfl rfl rfl rfl (by decide) (Nat.le_of_ble_eq_true rfl) (by decide) (by decide) (tX10_needStartF hW hR hX (fun z => hbad ⟨decide_eq_true z.1, decide_eq_true ⟨z.2.1.1, by omega⟩, decide_eq_true ⟨z.2.2.1, by omega⟩⟩)) (fun E t h => h)
end CU1
