/-! THE LAW'S LOOP and its beginning -/
section LL
variable {w : jWD} {l : Launch} {Lq : Nat} {xs : Nat → Int32}
theorem b63 (y : Int32) : ∃ c, c < 64 ∧ y &&& 63 = nI c := by
  have e : (y &&& 63).toBitVec = y.toBitVec &&& 63#32 := rfl
  have e2 : (y &&& 63).toBitVec.toNat ≤ 63 := by rw [e, BitVec.toNat_and]; exact Nat.and_le_right
  have e3 : (y &&& 63).toInt = (y &&& 63).toBitVec.toInt := rfl
  have e4 : (y &&& 63).toInt = ((y &&& 63).toBitVec.toNat : Int) := by rw [e3, BitVec.toInt_eq_toNat_of_lt (by omega)]
  have h0 : 0 ≤ (y &&& 63).toInt := by rw [e4]; omega
  refine ⟨cN (y &&& 63), ?_, nI_cN h0⟩
  have q : (cN (y &&& 63) : Int) = (y &&& 63).toInt := Int.toNat_of_nonneg h0
  omega
set_option maxHeartbeats 2000000 in
theorem lw_loop (hW : jWok w l) (hNc : va_Nc eI eN w.1) (hX : jScr w Lq xs) (hL : Lq ≤ 3072) : ∀ (r n i : Nat) (I : Nat → Nat → Int32) (L : Nat → Nat → Int64) (R : Nat → Nat → Option Nat), INV I L R → i ≤ Lq → Lq ≤ i + 6 * r + 5 → jWP w l mL_law 60 r (6 * r) lQ lX 23 (lL i) [] (n, shE, I, L, R) := by
  intro r
  induction r with
  | zero =>
    intro n i I L R hV hi hr
    refine jx_iload dL_law_23 rfl ?_
    refine jx_aload_n dL_law_25 rfl ?_
    refine jx_slen hX dL_law_26 ?_
    refine jx_bipush (v := nI 6) dL_law_27 (by decide) ?_
    refine jx_isubE (z := zI ((Lq : Int) - 6)) dL_law_29 (by show nI Lq - nI 6 = _; rw [nI_zI, nI_zI, zI_sub]; rfl) ?_
    refine jx_icmp_gt 2372 dL_law_30 (by decide) (fun _ => ?_) (fun hle => ?_)
    · refine jx_iconst (v := 1) dL_law_2372 rfl ?_
      exact jx_zret dL_law_2373 rfl (Or.inr rfl) rfl
    · exfalso
      apply hle
      rw [Int32.lt_iff_toInt_lt, zI_toInt (by omega) (by omega), nI_toInt (by omega)]
      omega
  | succ r ih =>
    intro n i I L R hV hi hr
    refine jx_iload dL_law_23 rfl ?_
    refine jx_aload_n dL_law_25 rfl ?_
    refine jx_slen hX dL_law_26 ?_
    refine jx_bipush (v := nI 6) dL_law_27 (by decide) ?_
    refine jx_isubE (z := zI ((Lq : Int) - 6)) dL_law_29 (by show nI Lq - nI 6 = _; rw [nI_zI, nI_zI, zI_sub]; rfl) ?_
    refine jx_icmp_gt 2372 dL_law_30 (by decide) (fun _ => ?_) (fun hle => ?_)
    · refine jx_iconst (v := 1) dL_law_2372 rfl ?_
      exact jx_zret dL_law_2373 rfl (Or.inr rfl) rfl
    · have hi6 : i + 6 ≤ Lq := by
        by_cases q : i + 6 ≤ Lq
        · exact q
        · exfalso
          apply hle
          rw [Int32.lt_iff_toInt_lt, zI_toInt (by omega) (by omega), nI_toInt (by omega)]
          omega
      have hk : lK w l r (6 * r) i := fun n I L R iv => by
        refine jx_iinc (v := nI (i + 6)) dL_law_2366 rfl (nI_p i 6) (by decide) ?_
        refine jx_goto 23 dL_law_2369 (by decide) ?_
        exact jx_ls (by exact ⟨rfl, rfl, rfl, rfl, rfl, trivial⟩) (ih n (i + 6) I L R iv (by omega) (by omega))
      refine jx_aload_n dL_law_33 rfl ?_
      refine jx_iload dL_law_34 rfl ?_
      refine jx_sld i hX dL_law_36 rfl (by omega) (by omega) ?_
      refine jx_bipush (v := 63) dL_law_37 (by decide) ?_
      refine jx_iand dL_law_39 ?_
      obtain ⟨c, hc, e⟩ := b63 (xs i)
      rw [e]
      by_cases h34 : c ≤ 34
      · have hcc : c = 0 ∨ c = 1 ∨ c = 2 ∨ c = 3 ∨ c = 4 ∨ c = 5 ∨ c = 6 ∨ c = 7 ∨ c = 8 ∨ c = 9 ∨ c = 10 ∨ c = 11 ∨ c = 12 ∨ c = 13 ∨ c = 14 ∨ c = 15 ∨ c = 16 ∨ c = 17 ∨ c = 18 ∨ c = 19 ∨ c = 20 ∨ c = 21 ∨ c = 22 ∨ c = 23 ∨ c = 24 ∨ c = 25 ∨ c = 26 ∨ c = 27 ∨ c = 28 ∨ c = 29 ∨ c = 30 ∨ c = 31 ∨ c = 32 ∨ c = 33 ∨ c = 34 := by omega
        rcases hcc with rfl | rfl | rfl | rfl | rfl | rfl | rfl | rfl | rfl | rfl | rfl | rfl | rfl | rfl | rfl | rfl | rfl | rfl | rfl | rfl | rfl | rfl | rfl | rfl | rfl | rfl | rfl | rfl | rfl | rfl | rfl | rfl | rfl | rfl | rfl
        · exact jx_tsIn 196 dL_law_40 (by decide) (by decide) rfl (by decide) (cL_case0 hW hNc hX hL hi6 hV hk)
        · exact jx_tsIn 269 dL_law_40 (by decide) (by decide) rfl (by decide) (cL_case1 hW hNc hX hL hi6 hV hk)
        · exact jx_tsIn 325 dL_law_40 (by decide) (by decide) rfl (by decide) (cL_case2 hW hNc hX hL hi6 hV hk)
        · exact jx_tsIn 338 dL_law_40 (by decide) (by decide) rfl (by decide) (cL_case3 hW hNc hX hL hi6 hV hk)
        · exact jx_tsIn 394 dL_law_40 (by decide) (by decide) rfl (by decide) (cL_case4 hW hNc hX hL hi6 hV hk)
        · exact jx_tsIn 462 dL_law_40 (by decide) (by decide) rfl (by decide) (cL_case5 hW hNc hX hL hi6 hV hk)
        · exact jx_tsIn 537 dL_law_40 (by decide) (by decide) rfl (by decide) (cL_case6 hW hNc hX hL hi6 hV hk)
        · exact jx_tsIn 605 dL_law_40 (by decide) (by decide) rfl (by decide) (cL_case7 hW hNc hX hL hi6 hV hk)
        · exact jx_tsIn 673 dL_law_40 (by decide) (by decide) rfl (by decide) (cL_case8 hW hNc hX hL hi6 hV hk)
        · exact jx_tsIn 772 dL_law_40 (by decide) (by decide) rfl (by decide) (cL_case9 hW hNc hX hL hi6 hV hk)
        · exact jx_tsIn 852 dL_law_40 (by decide) (by decide) rfl (by decide) (cL_case10 hW hNc hX hL hi6 hV hk)
        · exact jx_tsIn 908 dL_law_40 (by decide) (by decide) rfl (by decide) (cL_case11 hW hNc hX hL hi6 hV hk)
        · exact jx_tsIn 988 dL_law_40 (by decide) (by decide) rfl (by decide) (cL_case12 hW hNc hX hL hi6 hV hk)
        · exact jx_tsIn 1068 dL_law_40 (by decide) (by decide) rfl (by decide) (cL_case13 hW hNc hX hL hi6 hV hk)
        · exact jx_tsIn 1081 dL_law_40 (by decide) (by decide) rfl (by decide) (cL_case14 hW hNc hX hL hi6 hV hk)
        · exact jx_tsIn 1149 dL_law_40 (by decide) (by decide) rfl (by decide) (cL_case15 hW hNc hX hL hi6 hV hk)
        · exact jx_tsIn 1217 dL_law_40 (by decide) (by decide) rfl (by decide) (cL_case16 hW hNc hX hL hi6 hV hk)
        · exact jx_tsIn 1285 dL_law_40 (by decide) (by decide) rfl (by decide) (cL_case17 hW hNc hX hL hi6 hV hk)
        · exact jx_tsIn 1341 dL_law_40 (by decide) (by decide) rfl (by decide) (cL_case18 hW hNc hX hL hi6 hV hk)
        · exact jx_tsIn 1397 dL_law_40 (by decide) (by decide) rfl (by decide) (cL_case19 hW hNc hX hL hi6 hV hk)
        · exact jx_tsIn 1410 dL_law_40 (by decide) (by decide) rfl (by decide) (cL_case20 hW hNc hX hL hi6 hV hk)
        · exact jx_tsIn 1466 dL_law_40 (by decide) (by decide) rfl (by decide) (cL_case21 hW hNc hX hL hi6 hV hk)
        · exact jx_tsIn 1522 dL_law_40 (by decide) (by decide) rfl (by decide) (cL_case22 hW hNc hX hL hi6 hV hk)
        · exact jx_tsIn 1578 dL_law_40 (by decide) (by decide) rfl (by decide) (cL_case23 hW hNc hX hL hi6 hV hk)
        · exact jx_tsIn 1674 dL_law_40 (by decide) (by decide) rfl (by decide) (cL_case24 hW hNc hX hL hi6 hV hk)
        · exact jx_tsIn 1687 dL_law_40 (by decide) (by decide) rfl (by decide) (cL_case25 hW hNc hX hL hi6 hV hk)
        · exact jx_tsIn 1743 dL_law_40 (by decide) (by decide) rfl (by decide) (cL_case26 hW hNc hX hL hi6 hV hk)
        · exact jx_tsIn 1826 dL_law_40 (by decide) (by decide) rfl (by decide) (cL_case27 hW hNc hX hL hi6 hV hk)
        · exact jx_tsIn 1906 dL_law_40 (by decide) (by decide) rfl (by decide) (cL_case28 hW hNc hX hL hi6 hV hk)
        · exact jx_tsIn 1998 dL_law_40 (by decide) (by decide) rfl (by decide) (cL_case29 hW hNc hX hL hi6 hV hk)
        · exact jx_tsIn 2090 dL_law_40 (by decide) (by decide) rfl (by decide) (cL_case30 hW hNc hX hL hi6 hV hk)
        · exact jx_tsIn 2170 dL_law_40 (by decide) (by decide) rfl (by decide) (cL_case31 hW hNc hX hL hi6 hV hk)
        · exact jx_tsIn 2250 dL_law_40 (by decide) (by decide) rfl (by decide) (cL_case32 hW hNc hX hL hi6 hV hk)
        · exact jx_tsIn 2342 dL_law_40 (by decide) (by decide) rfl (by decide) (cL_case33 hW hNc hX hL hi6 hV hk)
        · exact jx_tsIn 2353 dL_law_40 (by decide) (by decide) rfl (by decide) (cL_case34 hW hNc hX hL hi6 hV hk)
      · refine jx_tsOut 2366 dL_law_40 (Or.inr ?_) (by decide) (jWP_mono (by omega) (by omega) (hk n I L R hV))
        rw [nI_toInt (by omega)]
        omega
theorem shN_all : shN 1119 = shE := by
  funext a
  unfold shN
  by_cases h : a < 1119
  · rw [if_pos h]
  · rw [if_neg h]
    unfold shE
    rw [if_neg (by omega), List.getD_eq_getElem?_getD, List.getElem?_eq_none (by show jtab.length ≤ _; rw [show jtab.length = 119 from rfl]; omega)]
    rfl
theorem rt_out {a k x : Nat} (h : rtE a k = some x) : 1000 ≤ a ∧ a < 1118 := by
  have e : jrl.length = 119 := rfl
  by_cases h0 : a < 1000
  · unfold rtE at h
    rw [if_pos h0] at h; cases h
  · refine ⟨by omega, ?_⟩
    by_cases h1 : a < 1118
    · exact h1
    · exfalso
      by_cases h2 : a = 1118
      · subst h2
        rw [show rtE 1118 k = none from rfl] at h; cases h
      · unfold rtE at h
        rw [if_neg h0, List.getD_eq_getElem?_getD, List.getElem?_eq_none (by omega)] at h
        cases h
def z0 : Nat → Nat → Int32 := fun _ _ => 0
theorem beg_c {X Y : Nat → Nat → Int32} {a k : Nat} (h : X a k = Y a k) : begH X a k = begH Y a k := by
  unfold begH b2H fl flo b1H upI flo
  simp only [h]
set_option maxHeartbeats 4000000 in
theorem INV_0 {J : Nat → Nat → Int32} {M : Nat → Nat → Int64} {R' R2 : Nat → Nat → Option Nat} (hz : Zr 1069 J M R') (r1 : RSn R' 1000 1069) (q4 : R' 1000 4 = some 1008) (q5 : R' 1000 5 = some 1024) (q0 : R' 1040 0 = some 1008) (hC : CIs J M 1008 (islV z0 0) 6 4 0 0) (hzz : ∀ a k, (a < 1008 ∨ 1040 ≤ a) → ¬ (a = 1000 ∧ (k = 3 ∨ k = 13)) → J a k = 0 ∧ M a k = 0) (m3 : J 1000 3 = -1) (m13 : J 1000 13 = -1)
    (s1 : ∀ a k, a < 1069 → R2 a k = R' a k) (s2 : RSn R2 1069 1118) : INV (tovH (begH (upI (upI J 1069 26 (-1)) 1069 38 (-1)))) M R2 := by
  generalize hX : upI (upI J 1069 26 (-1)) 1069 38 (-1) = X
  have eX : ∀ a k, ¬ (a = 1069 ∧ (k = 26 ∨ k = 38)) → X a k = J a k := fun a k h => by rw [← hX, upI_ne (by omega), upI_ne (by omega)]
  have x26 : X 1069 26 = -1 := by rw [← hX, upI_j (by decide), upI_s]
  have eK : ∀ a k, ¬ (1072 ≤ a ∧ a ≤ 1082) → a ≠ 1084 → ¬ (a = 1069 ∧ (k = 32 ∨ k = 33 ∨ k = 38 ∨ k = 49 ∨ k = 55)) → tovH (begH X) a k = X a k := fun a k h1 h2 h3 => by
    rw [tov_e h1 h3]
    exact beg_ne (by omega) (by omega) (by omega) h2
  have eJ : ∀ a k, a < 1069 → tovH (begH X) a k = J a k := fun a k h1 => (eK a k (by omega) (by omega) (by omega)).trans (eX a k (by omega))
  have eZ : ∀ a k, ¬ (1072 ≤ a ∧ a ≤ 1082) → a ≠ 1084 → ¬ (a = 1069 ∧ (k = 26 ∨ k = 32 ∨ k = 33 ∨ k = 38 ∨ k = 49 ∨ k = 55)) → (a < 1008 ∨ 1040 ≤ a) → ¬ (a = 1000 ∧ (k = 3 ∨ k = 13)) → tovH (begH X) a k = 0 := fun a k h1 h2 h3 h4 h5 => by
    rw [eK a k h1 h2 (by omega), eX a k (by omega)]
    exact (hzz a k h4 h5).1
  have eT : ∀ a j, a ≠ 1084 → tlR a j = true → tovH (begH X) a j = islV z0 0 a j := fun a j h1 h2 => by
    have h3 := of_decide_eq_true h2
    rw [tov_t h1 h2]
    have q : islV z0 0 a j = begH (isl0 z0 0) a (offU a + j) := by
      unfold islV
      rw [Nat.ble_eq.mpr (show 1069 ≤ a by omega)]; rfl
    rw [q]
    refine beg_c ?_
    rw [eX _ _ (by omega), (hzz a _ (by omega) (by omega)).1]
    unfold isl0
    rw [upI_ne (by omega), upI_ne (by omega), upI_ne (by omega), upI_ne (by omega), upI_ne (by omega), upI_ne (by omega)]
    rfl
  have hbg := islV_bg z0 0
  have hI : RI (islV z0 0) 6 4 0 0 := (BT_bg hbg (hbg.1 0 (by decide)) (hbg.1 1 (by decide)) (by decide)).1
  have t1 : ∀ a j, a ≠ 1084 → tlR a j = true → hR (tovH (begH X)) a j = islV z0 0 a j := fun a j h1 h2 => by
    have h3 := of_decide_eq_true h2
    rw [hR_1 _ (by omega) (by omega)]
    exact eT a j h1 h2
  have t2 : ∀ k, k < 0 → hR (tovH (begH X)) 1082 k = islV z0 0 1082 k := fun k hk => absurd hk (Nat.not_lt_zero _)
  have hl2 : M 1040 2 = 0 := (hzz 1040 2 (by omega) (by omega)).2
  refine ⟨1008, 1024, 6, 4, 0, 0, 0, 0, 0, fun _ => 0, ?_, Or.inl ⟨rfl, rfl⟩, (s1 _ _ (by decide)).trans q5, ?_, ?_, ?_, ?_, ?_, ?_, ?_, ?_, ?_, ?_, ?_, ?_⟩
  · intro a k x hx
    obtain ⟨h1, h2⟩ := rt_out hx
    by_cases h3 : a < 1069
    · rw [s1 a k h3]
      exact r1 a k x h1 h3 hx
    · exact s2 a k x (by omega) h2 hx
  · refine ⟨⟨⟨Or.inl rfl, (s1 _ _ (by decide)).trans q0⟩, CIs_g2 hI (CIs_g (J := tovH (begH X)) (M := M) (T' := islV z0 0) hI hC (fun b j _ h2 _ => eJ b j (by omega)) (fun _ _ _ => rfl) (fun _ _ _ => rfl) (fun _ _ => rfl)) t1 t2, RI_c2 hI t1 t2, fun k hk => absurd hk (Nat.not_lt_zero _), fun day hd hb t ht => ?_, fun p day hp hd => absurd hp (Nat.not_lt_zero _)⟩, (s1 _ _ (by decide)).trans q4⟩
    rw [hl2] at hb
    exfalso
    have q : ∀ d, d ≤ 40 → bt (0 : Int64) d = false := fun d _ => bt_0 d
    rw [q day hd] at hb
    cases hb
  · refine ⟨fun p hp => absurd hp (Nat.not_lt_zero _), fun c hc hne => absurd ?_ hne⟩
    rw [eT 1074 c (by decide) (decide_eq_true (by omega))]
    exact (hbg.2 c (by omega)).2.1
  · exact ⟨0, eZ _ _ (by omega) (by omega) (by omega) (by omega) (by omega), by decide⟩
  · refine ⟨eZ _ _ (by omega) (by omega) (by omega) (by omega) (by omega), ⟨?_, Nat.zero_le _, fun i hi => absurd hi (Nat.not_lt_zero _)⟩, fun i hi => absurd hi (Nat.not_lt_zero _), fun i j _ hj => absurd hj (Nat.not_lt_zero _)⟩
    simp [tovH, upI, fl, nI]
  · refine ⟨eZ _ _ (by omega) (by omega) (by omega) (by omega) (by omega), ⟨?_, Nat.zero_le _, fun i hi => absurd hi (Nat.not_lt_zero _)⟩, fun i hi => absurd hi (Nat.not_lt_zero _)⟩
    simp [tovH, upI, fl, nI]
  · intro j hj
    rw [eZ 1106 j (by omega) (by omega) (by omega) (by omega) (by omega), eZ 1117 j (by omega) (by omega) (by omega) (by omega) (by omega)]
    decide
  · exact ⟨eZ _ _ (by omega) (by omega) (by omega) (by omega) (by omega), eZ _ _ (by omega) (by omega) (by omega) (by omega) (by omega), Nat.zero_le _, fun k hk => absurd hk (Nat.not_lt_zero _)⟩
  · show tovH (begH X) 1000 3 = tovH (begH X) 1069 26
    rw [eJ _ _ (by decide), m3, eK _ _ (by omega) (by omega) (by omega), x26]
  · intro j hj
    rw [eZ 1059 j (by omega) (by omega) (by omega) (by omega) (by omega), eZ 1083 j (by omega) (by omega) (by omega) (by omega) (by omega)]
  · exact Or.inl ⟨(eJ _ _ (by decide)).trans m13, by simp [tovH, upI, fl]⟩
  · exact ⟨false, eZ _ _ (by omega) (by omega) (by omega) (by omega) (by omega), by simp [tovH, upI, fl, jb], fun q => absurd q (by decide)⟩
  · exact ⟨false, eZ _ _ (by omega) (by omega) (by omega) (by omega) (by omega), by simp [tovH, upI, fl, jb], fun q => absurd q (by decide)⟩
set_option maxRecDepth 20000 in
set_option maxHeartbeats 4000000 in
theorem lw_body (hW : jWok w l) (hNc : va_Nc eI eN w.1) (hX : jScr w Lq xs) (hL : Lq ≤ 3072) : jWP w l mL_law 60 631 40000 lQ lX 0 [(0, .ref 997)] [] (1000, shN 1000, fun _ _ => 0, fun _ _ => 0, fun _ _ => none) := by
  refine jx_new (ci := 10) (r := (RX10, TX10, 16)) dL_law_0 clL_8 rfl jclX10 itX10 iiX10 rfl (by decide) (fun k => ⟨rfl, rfl, rfl⟩) (by decide) (by decide) ?_
  refine jx_dup dL_law_3 rfl ?_
  refine jx_invI (as := []) dL_law_4 mlL_105 okX10_init inX10_init rfl rfl rfl (by decide) (by decide) (by decide) (Nat.le_of_ble_eq_true rfl) (gX10_init (T := islV z0 0) hW (islV_bg z0 0) (fun a ha k => ⟨rfl, rfl, rfl⟩) (fun a k ha => ⟨rfl, rfl⟩)) (fun _ _ h => h) ?_
  rintro v t ⟨rfl, J, M, R', rfl, hz, r1, q4, q5, q0, hC, hzz, m3, m13⟩
  refine jx_astore_n dL_law_7 rfl (by decide) ?_
  refine jx_new (ci := 11) (r := (RX11, TX11, 67)) dL_law_8 clL_106 rfl jclX11 itX11 iiX11 rfl (by decide) (fun k => hz _ (Nat.le_refl _) k) (by decide) (by decide) ?_
  refine jx_dup dL_law_11 rfl ?_
  refine jx_invI (as := []) dL_law_12 mlL_108 okX11_init inX11_init rfl rfl rfl (by decide) (by decide) (by decide) (Nat.le_of_ble_eq_true rfl) (gX11_init hW hz) (fun _ _ h => h) ?_
  rintro v t ⟨rfl, R2, rfl, s1, s2, s3⟩
  refine jx_astore_n dL_law_15 rfl (by decide) ?_
  refine jx_iconst (v := 1) dL_law_16 rfl ?_
  have iv := INV_0 hz r1 q4 q5 q0 hC hzz m3 m13 s1 s2
  refine jx_newarr (t := 4) (m := 1) dL_law_17 ac_long rfl (by decide) rfl (by decide) (fun k => ⟨?_, (hzz 1118 k (by omega) (by omega)).2, s3 _ _ (by decide)⟩) (by decide) (by decide) ?_
  · rw [tov_e (by omega) (by omega), beg_ne (by omega) (by omega) (by omega) (by omega), upI_nea (by decide), upI_nea (by decide)]
    exact (hzz 1118 k (by omega) (by omega)).1
  refine jx_astore_n dL_law_19 rfl (by decide) ?_
  refine jx_iconst (v := nI 0) dL_law_20 rfl ?_
  refine jx_istore dL_law_21 (by decide) ?_
  have q := lw_loop hW hNc hX hL 512 1119 0 _ _ _ iv (Nat.zero_le _) (by omega)
  rw [← shN_all] at q
  exact jWP_mono (by decide) (by decide) (jx_ls (by exact ⟨rfl, rfl, rfl, rfl, rfl, trivial⟩) q)
end LL
