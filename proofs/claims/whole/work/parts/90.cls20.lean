/-! THE CLASS: bits counted, crowds -/
def bc1 (x : Int32) : Int32 := x - (((x).toUInt32 >>> ((1 : Int32).toUInt32 &&& Int32.toUInt32 31)).toInt32 &&& 1431655765)
def bc2 (x : Int32) : Int32 := (x &&& 858993459) + (((x).toUInt32 >>> ((2 : Int32).toUInt32 &&& Int32.toUInt32 31)).toInt32 &&& 858993459)
def bc3 (x : Int32) : Int32 := (x + ((x).toUInt32 >>> ((4 : Int32).toUInt32 &&& Int32.toUInt32 31)).toInt32) &&& 252645135
def bc4 (x : Int32) : Int32 := x + ((x).toUInt32 >>> ((8 : Int32).toUInt32 &&& Int32.toUInt32 31)).toInt32
def bc5 (x : Int32) : Int32 := x + ((x).toUInt32 >>> ((16 : Int32).toUInt32 &&& Int32.toUInt32 31)).toInt32
theorem bc_all : ∀ x, x < 64 → bc5 (bc4 (bc3 (bc2 (bc1 (nI x))))) &&& 63 = nI (pc6 x) := by decide +kernel
theorem lf_all : ∀ m, m < 64 → ∀ c, c < 6 → ((nI m >>> (nI c &&& 31)) &&& 1) = jb (m.testBit c) := by decide +kernel
section CT1
variable {w : jWD} {l : Launch} {n : Nat} {I : Nat → Nat → Int32} {L : Nat → Nat → Int64} {R : Nat → Nat → Option Nat}

set_option maxHeartbeats 1000000 in
set_option maxRecDepth 20000 in
theorem tJ6_bitCount (hW : jWok w l) {x : Nat} (hx : x < 64) (σ : jHS) : jCD w l mJ6_bitCount_0f7a4 1 [.int (nI x)] σ (some (.int (nI (pc6 x)))) σ := by
  refine jCD_ofF hW (by decide +kernel) rfl (Nat.le_of_ble_eq_true rfl) ?_
  refine jx_iload_n dJ6_bitCount_0f7a4_0 rfl ?_
  refine jx_iload_n dJ6_bitCount_0f7a4_1 rfl ?_
  refine jx_iconst (v := 1) dJ6_bitCount_0f7a4_2 (by decide) ?_
  refine jx_iushr dJ6_bitCount_0f7a4_3 ?_
  refine jx_ldcw dJ6_bitCount_0f7a4_4 ctJ6_265 ?_
  refine jx_iand dJ6_bitCount_0f7a4_7 ?_
  refine jx_isubE (z := bc1 (nI x)) dJ6_bitCount_0f7a4_8 (rfl) ?_
  refine jx_istore_n dJ6_bitCount_0f7a4_9 rfl (by decide) ?_
  refine jx_iload_n dJ6_bitCount_0f7a4_10 rfl ?_
  refine jx_ldcw dJ6_bitCount_0f7a4_11 ctJ6_266 ?_
  refine jx_iand dJ6_bitCount_0f7a4_14 ?_
  refine jx_iload_n dJ6_bitCount_0f7a4_15 rfl ?_
  refine jx_iconst (v := 2) dJ6_bitCount_0f7a4_16 (by decide) ?_
  refine jx_iushr dJ6_bitCount_0f7a4_17 ?_
  refine jx_ldcw dJ6_bitCount_0f7a4_18 ctJ6_266 ?_
  refine jx_iand dJ6_bitCount_0f7a4_21 ?_
  refine jx_iaddE (z := bc2 (bc1 (nI x))) dJ6_bitCount_0f7a4_22 (rfl) ?_
  refine jx_istore_n dJ6_bitCount_0f7a4_23 rfl (by decide) ?_
  refine jx_iload_n dJ6_bitCount_0f7a4_24 rfl ?_
  refine jx_iload_n dJ6_bitCount_0f7a4_25 rfl ?_
  refine jx_iconst (v := 4) dJ6_bitCount_0f7a4_26 (by decide) ?_
  refine jx_iushr dJ6_bitCount_0f7a4_27 ?_
  refine jx_iadd dJ6_bitCount_0f7a4_28 ?_
  refine jx_ldcw dJ6_bitCount_0f7a4_29 ctJ6_267 ?_
  refine jx_iandE (z := bc3 (bc2 (bc1 (nI x)))) dJ6_bitCount_0f7a4_32 (rfl) ?_
  refine jx_istore_n dJ6_bitCount_0f7a4_33 rfl (by decide) ?_
  refine jx_iload_n dJ6_bitCount_0f7a4_34 rfl ?_
  refine jx_iload_n dJ6_bitCount_0f7a4_35 rfl ?_
  refine jx_bipush (v := 8) dJ6_bitCount_0f7a4_36 (by decide) ?_
  refine jx_iushr dJ6_bitCount_0f7a4_38 ?_
  refine jx_iaddE (z := bc4 (bc3 (bc2 (bc1 (nI x))))) dJ6_bitCount_0f7a4_39 (rfl) ?_
  refine jx_istore_n dJ6_bitCount_0f7a4_40 rfl (by decide) ?_
  refine jx_iload_n dJ6_bitCount_0f7a4_41 rfl ?_
  refine jx_iload_n dJ6_bitCount_0f7a4_42 rfl ?_
  refine jx_bipush (v := 16) dJ6_bitCount_0f7a4_43 (by decide) ?_
  refine jx_iushr dJ6_bitCount_0f7a4_45 ?_
  refine jx_iaddE (z := bc5 (bc4 (bc3 (bc2 (bc1 (nI x)))))) dJ6_bitCount_0f7a4_46 (rfl) ?_
  refine jx_istore_n dJ6_bitCount_0f7a4_47 rfl (by decide) ?_
  refine jx_iload_n dJ6_bitCount_0f7a4_48 rfl ?_
  refine jx_bipush (v := 63) dJ6_bitCount_0f7a4_49 (by decide) ?_
  refine jx_iandE (z := nI (pc6 x)) dJ6_bitCount_0f7a4_51 (bc_all x hx) ?_
  refine jx_iret dJ6_bitCount_0f7a4_52 rfl ?_
  exact ⟨rfl, rfl⟩
def ladK (T : Nat → Nat → Int32) (W H day left t k c : Nat) : Bool := onD T day k && !(left.testBit (cN (T 1094 k))) && decide (pl T k t = some c) && decide (c < W * H ∧ T 1074 c = 2)
theorem lad_pr {T : Nat → Nat → Int32} {W H np b day left t i : Nat} (hB : RK T W H np b) (hw : ∀ c, c < W * H → T 1074 c = nI (cN (T 1074 c)) ∧ cN (T 1074 c) ≤ 2) (hx : ∀ c, c < W * H → T 1074 c ≠ 0 → c % W ≠ 0 ∧ c % W ≠ W - 1) (hi : i < b) : (∃ c, anyN (fun k => ladK T W H day left t k c) i = true ∧ ladK T W H day left t i c = true) ↔ anyN (fun k => prT T W day left i k t) i = true := by
  have w2 : ∀ c, c < W * H → (T 1074 c = 2 ↔ wht T c = 2) := fun c hc => by
    unfold wht
    constructor
    · intro h; rw [h]; decide
    · intro h; have := (hw c hc).1; rw [h] at this; exact this
  rw [anyN_iff]
  constructor
  · rintro ⟨c, h1, h2⟩
    obtain ⟨k, hk, hl⟩ := anyN_iff.mp h1
    refine ⟨k, hk, ?_⟩
    unfold ladK at hl h2
    simp only [Bool.and_eq_true, decide_eq_true_eq, Bool.not_eq_true'] at hl h2
    obtain ⟨⟨⟨a1, a2⟩, a3⟩, a4, a5⟩ := hl
    obtain ⟨⟨⟨b1, b2⟩, b3⟩, -, -⟩ := h2
    have hxx := hx c a4 (by rw [a5]; decide)
    unfold prT mtT
    rw [a1, b1, a2, b2, b3]
    show (true && true && !false && !false && (decide (pl T k t = some c) && !decide (c % W = 0) && !decide (c % W = W - 1) && (decide (2 = 0) || decide (wht T c = 2)))) = true
    rw [decide_eq_true a3, decide_eq_false hxx.1, decide_eq_false hxx.2, decide_eq_true ((w2 c a4).mp a5)]
    rfl
  · rintro ⟨k, hk, h⟩
    unfold prT at h
    simp only [Bool.and_eq_true, Bool.not_eq_true'] at h
    obtain ⟨⟨⟨⟨b1, a1⟩, b2⟩, a2⟩, h⟩ := h
    unfold mtT at h
    cases e : pl T i t with
    | none => rw [e] at h; cases h
    | some c =>
      rw [e] at h
      have h : (decide (pl T k t = some c) && !decide (c % W = 0) && !decide (c % W = W - 1) && (decide (2 = 0) || decide (wht T c = 2))) = true := h
      simp only [Bool.and_eq_true, decide_eq_true_eq, Bool.or_eq_true] at h
      obtain ⟨⟨⟨h1, -⟩, -⟩, h2⟩ := h
      have hc := pl_lt hB hi e
      have h2 : wht T c = 2 := by
        rcases h2 with q | q
        · exact absurd q (by decide)
        · exact q
      have h3 := (w2 c hc).mpr h2
      refine ⟨c, anyN_of (k := k) ?_ hk, ?_⟩
      · unfold ladK
        rw [a1, a2, decide_eq_true h1, decide_eq_true (⟨hc, h3⟩ : c < W * H ∧ T 1074 c = 2)]; rfl
      · unfold ladK
        rw [b1, b2, decide_eq_true e, decide_eq_true (⟨hc, h3⟩ : c < W * H ∧ T 1074 c = 2)]; rfl
set_option maxHeartbeats 1000000 in
set_option maxRecDepth 20000 in
theorem tX2_firstCrowd (hW : jWok w l) (hR : RS R) {T : Nat → Nat → Int32} {W H np b : Nat} (hB : LBk I T W H np b) (hwh : W * H ≤ 63) (hn : np ≤ 6) (hw : ∀ c, c < W * H → T 1074 c = nI (cN (T 1074 c)) ∧ cN (T 1074 c) ≤ 2) (hx : ∀ c, c < W * H → T 1074 c ≠ 0 → c % W ≠ 0 ∧ c % W ≠ W - 1) {day left : Nat} (hd : day ≤ 40) (hl : left < 64) : jCD w l mX2_firstCrowd 2 [.ref 1051, .int (nI day), .long (bs (fun c => decide (c < W * H ∧ T 1074 c = 2))), .int (nI left)] (n, shE, I, L, R) (some (.int (oI (crw T W b day left)))) (n, shE, I, L, R) := by
  refine jCD_of hW (by decide) rfl (Nat.le_of_ble_eq_true rfl) ?_
  have hB0 := hB
  obtain ⟨hbc, hRK, hbi⟩ := hB
  have hb12 := hRK.2.1
  have hbk := hRK.2.2
  have keyt : ∀ t, t ≤ 96 → (∀ j, j < t → gI T W day left b j = false) → jWP w l mX2_firstCrowd 2 0 0 (fun r t_1 => r = some (.int (oI (crw T W b day left))) ∧ t_1 = (n, shE, I, L, R)) (fun _ _ => False) 3 [(0, .ref 1051), (1, .int (nI day)), (2, .long (bs (fun c => decide (c < W * H ∧ T 1074 c = 2)))), (4, .int (nI left)), (5, .int (nI t))] [] (n, shE, I, L, R) := by
    refine jdown _ (fun t ht ih hj => ?_)
    have keyi : t < 96 → ∀ i, i ≤ b → (∀ j, j < i → anyN (fun k => prT T W day left j k t) j = false) → jWP w l mX2_firstCrowd 2 0 0 (fun r t_1 => r = some (.int (oI (crw T W b day left))) ∧ t_1 = (n, shE, I, L, R)) (fun _ _ => False) 16 [(0, .ref 1051), (1, .int (nI day)), (2, .long (bs (fun c => decide (c < W * H ∧ T 1074 c = 2)))), (4, .int (nI left)), (5, .int (nI t)), (6, .long (bs (fun c => anyN (fun k => ladK T W H day left t k c) i))), (8, .int (nI i))] [] (n, shE, I, L, R) := by
      intro ht96
      refine jdown _ (fun i hi ihi hji => ?_)
      have key88 : i < b → ∀ f : Nat → Bool, (∀ c, f c = ladK T W H day left t i c) → jWP w l mX2_firstCrowd 2 0 0 (fun r t_1 => r = some (.int (oI (crw T W b day left))) ∧ t_1 = (n, shE, I, L, R)) (fun _ _ => False) 88 [(0, .ref 1051), (1, .int (nI day)), (2, .long (bs (fun c => decide (c < W * H ∧ T 1074 c = 2)))), (4, .int (nI left)), (5, .int (nI t)), (6, .long (bs (fun c => anyN (fun k => ladK T W H day left t k c) i))), (8, .int (nI i))] [.long (bs f)] (n, shE, I, L, R) := by
        intro hib f hf
        refine jx_lstore dX2_firstCrowd_88 (by decide) ?_
        refine jx_lload dX2_firstCrowd_90 rfl ?_
        refine jx_lload dX2_firstCrowd_92 rfl ?_
        refine jx_landE (z := bs (fun c => anyN (fun k => ladK T W H day left t k c) i && f c)) dX2_firstCrowd_94 (bs_and _ _) ?_
        refine jx_lconst (v := 0) dX2_firstCrowd_95 (by decide) ?_
        refine jx_lcmp dX2_firstCrowd_96 ?_
        refine jx_if_eq 103 dX2_firstCrowd_97 (by decide) (fun h97 => ?_) (fun h97 => ?_)
        · refine jx_lload dX2_firstCrowd_103 rfl ?_
          refine jx_lload dX2_firstCrowd_105 rfl ?_
          refine jx_lorE (z := bs (fun c => anyN (fun k => ladK T W H day left t k c) i || f c)) dX2_firstCrowd_107 (bs_or _ _) ?_
          refine jx_lstore dX2_firstCrowd_108 (by decide) ?_
          refine jx_iinc dX2_firstCrowd_110 rfl (v := nI (i + 1)) (nI_1 _) (by decide) ?_
          refine jx_goto 16 dX2_firstCrowd_113 (by decide) ?_
          have hno : anyN (fun k => prT T W day left i k t) i = false := by
            cases e : anyN (fun k => prT T W day left i k t) i
            · rfl
            · obtain ⟨c, h1, h2⟩ := (lad_pr hRK hw hx hib).mpr e
              have q := lcmp_ne.mp h97
              have hc : c < W * H := by unfold ladK at h2; simp only [Bool.and_eq_true, decide_eq_true_eq] at h2; exact h2.2.1
              exact absurd q (bs_ne.mpr ⟨c, by omega, by rw [h1, hf c, h2]; rfl⟩)
          have kk := ihi hib (fun j hj2 => by
            by_cases z : j = i
            · rw [z]; exact hno
            · exact hji j (by omega))
          rw [show bs (fun c => anyN (fun k => ladK T W H day left t k c) (i + 1)) = bs (fun c => anyN (fun k => ladK T W H day left t k c) i || f c) from bs_c (fun c _ => by rw [anyN, hf c])] at kk
          exact jx_ls (by exact ⟨rfl, rfl, rfl, rfl, rfl, rfl, rfl, trivial⟩) kk
        · refine jx_iload dX2_firstCrowd_100 rfl ?_
          refine jx_iret dX2_firstCrowd_102 rfl ?_
          refine ⟨?_, rfl⟩
          have q := fun z => h97 (lcmp_ne.mpr z)
          obtain ⟨c, hc, hz⟩ := bs_ne.mp q
          simp only [Bool.and_eq_true] at hz
          have hpr := (lad_pr hRK hw hx hib).mp ⟨c, hz.1, by rw [← hf c]; exact hz.2⟩
          have hg : gI T W day left b t = true := anyN_of (k := i) (g := fun i' => anyN (fun k => prT T W day left i' k t) i') hpr hib
          unfold crw
          rw [fnd_some.mpr ⟨ht96, hg, hj⟩]
          rfl
      refine jx_iload dX2_firstCrowd_16 rfl ?_
      refine jx_aload_n dX2_firstCrowd_18 rfl ?_
      refine jx_getIE dX2_firstCrowd_19 flX2_42 rfl rfl (hbc) ?_
      refine jx_icmpN_ge (a := i) (b := b) 116 dX2_firstCrowd_22 (by decide) (by omega) (by omega) (fun h22 => ?_) (fun h22 => ?_)
      · refine jx_iinc dX2_firstCrowd_116 rfl (v := nI (t + 1)) (nI_1 _) (by decide) ?_
        refine jx_goto 3 dX2_firstCrowd_119 (by decide) ?_
        have hng : gI T W day left b t = false := anyN_f.mpr (fun j hj2 => hji j (by omega))
        exact jx_ls (by exact ⟨rfl, rfl, rfl, rfl, rfl, trivial⟩) (ih ht96 (fun j hj2 => by
          by_cases z : j = t
          · rw [z]; exact hng
          · exact hj j (by omega)))
      · have h22 : i < b := by omega
        have hw6 := (hbk i h22).1.2
        have hd4 := (hbk i h22).2.1.2
        refine jx_iload dX2_firstCrowd_25 rfl ?_
        refine jx_bipush (v := 12) dX2_firstCrowd_27 (by decide) ?_
        refine jx_icmpN_ge (a := i) (b := 12) 116 dX2_firstCrowd_29 (by decide) (by omega) (by omega) (fun h29 => ?_) (fun h29 => ?_)
        · exact absurd h29 (by omega)
        · refine jx_aload_n dX2_firstCrowd_32 rfl ?_
          refine jx_getR dX2_firstCrowd_33 flX2_15 rfl rfl (hR _ _ _ rfl) ?_
          refine jx_iload dX2_firstCrowd_36 rfl ?_
          refine jx_ialdE (i) dX2_firstCrowd_38 rfl (rfl) (by omega) (by omega) ((hbi i h22).2.1.trans (hbk i h22).2.1.1) ?_
          refine jx_iload_n dX2_firstCrowd_39 rfl ?_
          refine jx_icmpN_ne (a := (cN (T 1095 i))) (b := day) 58 dX2_firstCrowd_40 (by decide) (by omega) (by omega) (fun h40 => ?_) (fun h40 => ?_)
          · skip
            refine jx_iconst (v := -1) dX2_firstCrowd_58 (by decide) ?_
            refine jx_goto 70 dX2_firstCrowd_59 (by decide) ?_
            refine jx_istore dX2_firstCrowd_70 (by decide) ?_
            refine jx_iload dX2_firstCrowd_72 rfl ?_
            refine jx_iconst (v := -1) dX2_firstCrowd_74 (by decide) ?_
            refine jx_icmp_ne 82 dX2_firstCrowd_75 (by decide) (fun h75 => ?_) (fun h75 => ?_)
            · exact absurd rfl h75
            · refine jx_lconst (v := 0) dX2_firstCrowd_78 (by decide) ?_
              refine jx_goto 88 dX2_firstCrowd_79 (by decide) ?_
              have kk := key88 h22 (fun _ => false) (fun c => by
                  unfold ladK
                  first
                    | (rw [show onD T day i = false from decide_eq_false h40]; rfl)
                    | (rw [h55, Bool.not_true, Bool.and_false]; rfl))
              rw [← bs_0] at kk
              exact jx_ls (by exact ⟨rfl, rfl, rfl, rfl, rfl, rfl, rfl, trivial⟩) kk
          · refine jx_iload dX2_firstCrowd_43 rfl ?_
            refine jx_aload_n dX2_firstCrowd_45 rfl ?_
            refine jx_getR dX2_firstCrowd_46 flX2_9 rfl rfl (hR _ _ _ rfl) ?_
            refine jx_iload dX2_firstCrowd_49 rfl ?_
            refine jx_ialdE (i) dX2_firstCrowd_51 rfl (rfl) (by omega) (by omega) ((hbi i h22).1.trans (hbk i h22).1.1) ?_
            refine jx_ishr dX2_firstCrowd_52 ?_
            refine jx_iconst (v := 1) dX2_firstCrowd_53 (by decide) ?_
            refine jx_iandE (z := jb (left.testBit (cN (T 1094 i)))) dX2_firstCrowd_54 (lf_all left hl _ (by omega)) ?_
            refine jx_ifB_eq 62 dX2_firstCrowd_55 (by decide) (fun h55 => ?_) (fun h55 => ?_)
            · refine jx_aload_n dX2_firstCrowd_62 rfl ?_
              refine jx_iload dX2_firstCrowd_63 rfl ?_
              refine jx_iload dX2_firstCrowd_65 rfl ?_
              refine jx_Vi (as := [.int _, .int _]) dX2_firstCrowd_67 mlX2_52 okX2_placeOf viX2_placeOf rfl rfl rfl rfl rfl (by decide) (Nat.le_of_ble_eq_true rfl) (tX2_placeOf hW hR hB0 h22 ht96) ?_
              refine jx_istore dX2_firstCrowd_70 (by decide) ?_
              cases hpi : pl T i t with
              | none =>
                refine jx_iload dX2_firstCrowd_72 rfl ?_
                refine jx_iconst (v := -1) dX2_firstCrowd_74 (by decide) ?_
                refine jx_icmp_ne 82 dX2_firstCrowd_75 (by decide) (fun h75 => ?_) (fun h75 => ?_)
                · exact absurd rfl h75
                · refine jx_lconst (v := 0) dX2_firstCrowd_78 (by decide) ?_
                  refine jx_goto 88 dX2_firstCrowd_79 (by decide) ?_
                  have kk := key88 h22 (fun _ => false) (fun c => by
                      unfold ladK
                      rw [hpi]; simp)
                  rw [← bs_0] at kk
                  exact jx_ls (by exact ⟨rfl, rfl, rfl, rfl, rfl, rfl, rfl, trivial⟩) kk
              | some c =>
                have hcl := pl_lt hRK h22 hpi
                refine jx_iload dX2_firstCrowd_72 rfl ?_
                refine jx_iconst (v := -1) dX2_firstCrowd_74 (by decide) ?_
                refine jx_icmp_ne 82 dX2_firstCrowd_75 (by decide) (fun h75 => ?_) (fun h75 => ?_)
                · refine jx_lconst (v := 1) dX2_firstCrowd_82 (by decide) ?_
                  refine jx_iload dX2_firstCrowd_83 rfl ?_
                  refine jx_lshl dX2_firstCrowd_85 ?_
                  refine jx_lload_n dX2_firstCrowd_86 rfl ?_
                  refine jx_land dX2_firstCrowd_87 ?_
                  rw [show oI (some c) = nI c from rfl, bs_1 (by omega), bs_and]
                  exact jx_ls (by exact ⟨rfl, rfl, rfl, rfl, rfl, rfl, rfl, trivial⟩) (key88 h22 _ (fun q => by
                    unfold ladK
                    rw [show onD T day i = true from decide_eq_true h40, h55, hpi]
                    by_cases z : q = c
                    · rw [z, decide_eq_true rfl, decide_eq_true rfl]; rfl
                    · rw [decide_eq_false z, decide_eq_false (fun y => z (Option.some.inj y).symm)]; rfl))
                · exact absurd h75 (fun q => by
                    have q2 := congrArg Int32.toInt (show nI c = -1 from q)
                    rw [nI_toInt (by omega)] at q2
                    have : (-1 : Int32).toInt = -1 := by decide
                    omega)
            · skip
              refine jx_iconst (v := -1) dX2_firstCrowd_58 (by decide) ?_
              refine jx_goto 70 dX2_firstCrowd_59 (by decide) ?_
              refine jx_istore dX2_firstCrowd_70 (by decide) ?_
              refine jx_iload dX2_firstCrowd_72 rfl ?_
              refine jx_iconst (v := -1) dX2_firstCrowd_74 (by decide) ?_
              refine jx_icmp_ne 82 dX2_firstCrowd_75 (by decide) (fun h75 => ?_) (fun h75 => ?_)
              · exact absurd rfl h75
              · refine jx_lconst (v := 0) dX2_firstCrowd_78 (by decide) ?_
                refine jx_goto 88 dX2_firstCrowd_79 (by decide) ?_
                have kk := key88 h22 (fun _ => false) (fun c => by
                    unfold ladK
                    first
                      | (rw [show onD T day i = false from decide_eq_false h40]; rfl)
                      | (rw [h55, Bool.not_true, Bool.and_false]; rfl))
                rw [← bs_0] at kk
                exact jx_ls (by exact ⟨rfl, rfl, rfl, rfl, rfl, rfl, rfl, trivial⟩) kk
    refine jx_iload dX2_firstCrowd_3 rfl ?_
    refine jx_bipush (v := 96) dX2_firstCrowd_5 (by decide) ?_
    refine jx_icmpN_ge (a := t) (b := 96) 122 dX2_firstCrowd_7 (by decide) (by omega) (by omega) (fun h7 => ?_) (fun h7 => ?_)
    · refine jx_iconst (v := -1) dX2_firstCrowd_122 (by decide) ?_
      refine jx_iret dX2_firstCrowd_123 rfl ?_
      refine ⟨?_, rfl⟩
      unfold crw
      rw [fnd_none.mpr (fun j hj2 => hj j (by omega))]
      rfl
    · refine jx_lconst (v := 0) dX2_firstCrowd_10 (by decide) ?_
      refine jx_lstore dX2_firstCrowd_11 (by decide) ?_
      refine jx_iconst (v := 0) dX2_firstCrowd_13 (by decide) ?_
      refine jx_istore dX2_firstCrowd_14 (by decide) ?_
      have kk := keyi (by omega) 0 (by omega) (fun j hj => absurd hj (by omega))
      rw [show bs (fun c => anyN (fun k => ladK T W H day left t k c) 0) = (0 : Int64) from bs_0.symm] at kk
      exact jx_ls (by exact ⟨rfl, rfl, rfl, rfl, rfl, rfl, rfl, trivial⟩) kk
  refine jx_iconst (v := 0) dX2_firstCrowd_0 (by decide) ?_
  refine jx_istore dX2_firstCrowd_1 (by decide) ?_
  exact jx_ls (by exact ⟨rfl, rfl, rfl, rfl, rfl, trivial⟩) (keyt 0 (by omega) (fun j hj => absurd hj (by omega)))
set_option maxHeartbeats 1000000 in
set_option maxRecDepth 20000 in
theorem tX10_crowded (hW : jWok w l) (hR : RS R) {h : Nat} {T : Nat → Nat → Int32} {W H np len : Nat} (hX : CX I L R h T W H np len) {b : Nat} (hB : LBk I T W H np b) (hx : ∀ c, c < W * H → T 1074 c ≠ 0 → c % W ≠ 0 ∧ c % W ≠ W - 1) {day : Nat} (hd : day ≤ 40) : jCD w l mX10_crowded 3 [.ref 1000, .int (nI day)] (n, shE, I, L, R) (some (.int (oI (crw T W b day 0)))) (n, shE, I, L, R) := by
  refine jCD_of hW (by decide) rfl (Nat.le_of_ble_eq_true rfl) ?_
  obtain ⟨⟨⟨hh, hRi⟩, hI, hRI, -, -, -⟩, hRh⟩ := hX
  have hT := RI.tq hRI
  have hw := hT.1
  have hhh := hT.2.1
  have hwh : W * H ≤ 63 := Nat.mul_le_mul hw.2 hhh.2
  have hn6 := hRI.2.2.2.2.1.2
  rcases hh with rfl | rfl
  all_goals
    refine jx_aload_n dX10_crowded_0 rfl ?_
    refine jx_iload_n dX10_crowded_1 rfl ?_
    refine jx_Vv (as := [.int _]) dX10_crowded_2 mlX10_170 okX10_needDay viX10_needDay rfl rfl rfl rfl rfl (by decide) (Nat.le_of_ble_eq_true rfl) (tX10_needDay hW hR (by omega)) ?_
    refine jx_aload_n dX10_crowded_5 rfl ?_
    refine jx_getR dX10_crowded_6 flX10_60 rfl rfl (hR _ _ _ rfl) ?_
    refine jx_iload_n dX10_crowded_9 rfl ?_
    refine jx_aload_n dX10_crowded_10 rfl ?_
    refine jx_getR dX10_crowded_11 flX10_32 rfl rfl hRh ?_
    refine jx_getR dX10_crowded_14 flX10_114 rfl rfl (hR _ _ _ rfl) ?_
    refine jx_getLE dX10_crowded_17 flX10_288 rfl rfl (hI.1.2.2.2.2.1.2) ?_
    refine jx_iconst (v := 0) dX10_crowded_20 (by decide) ?_
    refine jx_Vi (as := [.int _, .long _, .int _]) dX10_crowded_21 mlX10_291 okX2_firstCrowd viX2_firstCrowd rfl rfl rfl rfl rfl (by decide) (Nat.le_of_ble_eq_true rfl) (tX2_firstCrowd (left := 0) hW hR hB hwh hn6 (fun c hc => (hRI.2.1 c hc).2) hx hd (by omega)) ?_
    refine jx_iret dX10_crowded_24 rfl ?_
    exact ⟨rfl, rfl⟩
set_option maxHeartbeats 1000000 in
set_option maxRecDepth 20000 in
theorem tX10_crowdedF (hW : jWok w l) (hR : RS R) (day : Int32) (hbad : ¬ dayQ day = true) : jTh w l mX10_crowded 3 [.ref 1000, .int day] n I L R eN := by
  refine jTh_of hW (by decide) rfl (Nat.le_of_ble_eq_true rfl) ?_
  refine jx_aload_n dX10_crowded_0 rfl ?_
  refine jx_iload_n dX10_crowded_1 rfl ?_
  exact jx_VT (as := [.int _]) dX10_crowded_2 mlX10_170 okX10_needDay viX10_needDay rfl rfl rfl rfl rfl (by decide) (Nat.le_of_ble_eq_true rfl) (by decide) (by decide) (tX10_needDayF hW hR (fun z => hbad (decide_eq_true ⟨z.1, by omega⟩))) (fun E t h => h)
end CT1
