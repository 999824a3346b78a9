/-! THE REFERENCE: a whole text, said of its own half alone -/
def islV (I : Nat → Nat → Int32) (m : Nat) : Nat → Nat → Int32 := fun a j => cond (Nat.ble 1069 a) (begH (isl0 I m) a (offU a + j)) 0
theorem islV_bg (I : Nat → Nat → Int32) (m : Nat) : bgT (islV I m) := islT_bg I m
theorem islV_tl (I : Nat → Nat → Int32) (m : Nat) : TLS (begH (isl0 I m)) (islV I m) := by
  have q : ∀ a j, 1069 ≤ a → islV I m a j = begH (isl0 I m) a (offU a + j) := fun a j h => by
    unfold islV
    rw [Nat.ble_eq.mpr h]; rfl
  refine ⟨fun a j h => ?_, fun j hj => rfl⟩
  have h := of_decide_eq_true h
  exact (q a j (by omega)).symm
theorem islV_e {I J : Nat → Nat → Int32} (e : ∀ a j, 1069 ≤ a → J a j = I a j) (m : Nat) : islV J m = islV I m := by
  funext a j
  by_cases h : 1069 ≤ a
  · have e0 : ∀ a j, 1069 ≤ a → isl0 J m a j = isl0 I m a j := fun a j h => by
      unfold isl0 upI
      simp only [e a j h]
    have eb : ∀ k, begH (isl0 J m) a k = begH (isl0 I m) a k := fun k => by
      unfold begH b2H fl flo b1H upI flo
      simp only [e0 a k h]
    unfold islV
    rw [eb]
  · unfold islV
    have q : Nat.ble 1069 a = false := Bool.eq_false_iff.mpr (fun q => h (Nat.ble_eq.mp q))
    rw [q]; rfl
section RK9
variable {w : jWD} {l : Launch} {n : Nat} {I J : Nat → Nat → Int32} {L : Nat → Nat → Int64} {R : Nat → Nat → Option Nat}

set_option maxHeartbeats 1000000 in
set_option maxRecDepth 20000 in
theorem tX11_islandV (hW : jWok w l) (hR : RS R) {m tn : Nat} {tp : Nat → Nat} (ht : I 1069 17 = nI tn) (hm : m ≤ tn) (ht7 : tn ≤ 700) (htp : ∀ k, k < tn → I 1085 k = nI (tp k) ∧ tp k < 256) : jRi w l mX11_island 47 [.ref 1069, .int (nI m)] (n, shE, I, L, R) (fun r t => ∃ K, eqM (isl0 I m) K ∧ P3 K m tp (islE tp m (islV I m)).1 ∧ ((islE tp m (islV I m)).1.2.1 ≠ 0 → r = nI (islE tp m (islV I m)).1.2.1 ∧ t = (n, shE, upI (upI K 1069 26 (nI (islE tp m (islV I m)).1.2.2)) 1083 0 (K 1083 0 + 1), L, R)) ∧ ((islE tp m (islV I m)).1.2.1 = 0 → r = 0 ∧ t = (n, shE, tovH K, L, R) ∧ TLS K (islE tp m (islV I m)).2 ∧ ∃ W H np len, BT (islE tp m (islV I m)).2 W H np len)) := by
  refine jRi_of hW (by decide) rfl (Nat.le_of_ble_eq_true rfl) ?_
  generalize hres0 : islE tp m (islV I m) = res
  have key129 : ∀ K, eqM (isl0 I m) K → P3 K m tp res.1 → (res.1.2.1 = 0 → TLS K res.2 ∧ ∃ W H np len, BT res.2 W H np len) → jWP w l mX11_island 47 0 0 (fun v t => ∃ r, v = some (.int r) ∧ ∃ K, eqM (isl0 I m) K ∧ P3 K m tp res.1 ∧ (res.1.2.1 ≠ 0 → r = nI res.1.2.1 ∧ t = (n, shE, upI (upI K 1069 26 (nI res.1.2.2)) 1083 0 (K 1083 0 + 1), L, R)) ∧ (res.1.2.1 = 0 → r = 0 ∧ t = (n, shE, tovH K, L, R) ∧ TLS K res.2 ∧ ∃ W H np len, BT res.2 W H np len)) (fun _ _ => False) 129 [(0, .ref 1069), (1, .int (nI m))] [] (n, shE, K, L, R) := by
    intro K hK hP hT
    have hb5 : res.1.2.1 ≤ 5 := hP.1.2.2.2.2
    refine jx_aload_n dX11_island_129 rfl ?_
    refine jx_getIE dX11_island_130 flX11_240 rfl rfl (hP.1.2.2.2.1) ?_
    refine jx_ifN_eq (a := res.1.2.1) 159 dX11_island_133 (by decide) (by omega) (fun h133 => ?_) (fun h133 => ?_)
    · refine jx_aload_n dX11_island_159 rfl ?_
      refine jx_Vv (as := []) dX11_island_160 mlX11_184 okX11_takeOver viX11_takeOver rfl rfl rfl rfl rfl (by decide) (Nat.le_of_ble_eq_true rfl) (tX11_takeOver hW hR) ?_
      refine jx_iconst (v := 0) dX11_island_163 (by decide) ?_
      refine jx_iret dX11_island_164 rfl ?_
      exact ⟨_, rfl, K, hK, hP, fun q => absurd h133 q, fun _ => ⟨rfl, rfl, hT h133⟩⟩
    · refine jx_aload_n dX11_island_136 rfl ?_
      refine jx_aload_n dX11_island_137 rfl ?_
      refine jx_getIE dX11_island_138 flX11_243 rfl rfl (hP.2 h133) ?_
      refine jx_putI dX11_island_141 flX11_78 rfl rfl (fun r h => by cases h; rfl) ?_
      refine jx_aload_n dX11_island_144 rfl ?_
      refine jx_getR dX11_island_145 flX11_68 rfl rfl (hR _ _ _ rfl) ?_
      refine jx_iconst (v := 0) dX11_island_148 (by decide) ?_
      refine jx_dup2 dX11_island_149 rfl rfl ?_
      refine jx_ialdN (0) dX11_island_150 rfl (rfl) (by omega) (by omega) ?_
      refine jx_iconst (v := 1) dX11_island_151 (by decide) ?_
      refine jx_iadd dX11_island_152 ?_
      refine jx_iastN (0) dX11_island_153 rfl (rfl) (by omega) (by omega) ?_
      refine jx_aload_n dX11_island_154 rfl ?_
      refine jx_getIE dX11_island_155 flX11_240 rfl rfl ((upI_nea (by decide)).trans ((upI_j (by decide)).trans hP.1.2.2.2.1)) ?_
      refine jx_iret dX11_island_158 rfl ?_
      exact ⟨_, rfl, K, hK, hP, fun _ => ⟨rfl, by rw [upI_nea (by decide)]⟩, fun q => absurd q h133⟩
  have key106 : ∀ (g : Nat) (K : Nat → Nat → Int32) (x : Nat × Nat × Nat) (T : Nat → Nat → Int32) (seen : Nat), eqM (isl0 I m) K → P3 K m tp x → seen < 64 → (x.2.1 = 0 → m - x.1 < g ∧ TLS K T ∧ (seen &&& 32 = 0 → T 1072 16 = nI 0) ∧ ∃ W H np len, BT T W H np len) → lnL tp m g x T seen = res → jWP w l mX11_island 47 0 0 (fun v t => ∃ r, v = some (.int r) ∧ ∃ K, eqM (isl0 I m) K ∧ P3 K m tp res.1 ∧ (res.1.2.1 ≠ 0 → r = nI res.1.2.1 ∧ t = (n, shE, upI (upI K 1069 26 (nI res.1.2.2)) 1083 0 (K 1083 0 + 1), L, R)) ∧ (res.1.2.1 = 0 → r = 0 ∧ t = (n, shE, tovH K, L, R) ∧ TLS K res.2 ∧ ∃ W H np len, BT res.2 W H np len)) (fun _ _ => False) 106 [(0, .ref 1069), (1, .int (nI m)), (2, .int (nI seen))] [] (n, shE, K, L, R) := by
    intro g
    induction g with
    | zero =>
      rintro K x T seen hK hP hs hx hr
      have hb5 : x.2.1 ≤ 5 := hP.1.2.2.2.2
      have hr : (x, T) = res := hr
      refine jx_aload_n dX11_island_106 rfl ?_
      refine jx_getIE dX11_island_107 flX11_240 rfl rfl (hP.1.2.2.2.1) ?_
      refine jx_ifN_ne (a := x.2.1) 129 dX11_island_110 (by decide) (by omega) (fun h110 => ?_) (fun h110 => ?_)
      · subst hr
        exact jx_ls (by exact ⟨rfl, rfl, trivial⟩) (key129 K hK hP (fun q => absurd q h110))
      · exact absurd (hx h110).1 (by omega)
    | succ g ih =>
      rintro K ⟨b, bd, bp⟩ T seen hK hP hs hx hr
      have hb5 : bd ≤ 5 := hP.1.2.2.2.2
      have hkl := tKd_le tp m b
      have hbz : b ≤ m := hP.1.2.2.1
      have hm7 : m ≤ 700 := hP.1.1.2.1
      rw [lnL] at hr
      refine jx_aload_n dX11_island_106 rfl ?_
      refine jx_getIE dX11_island_107 flX11_240 rfl rfl (hP.1.2.2.2.1) ?_
      refine jx_ifN_ne (a := bd) 129 dX11_island_110 (by decide) (by omega) (fun h110 => ?_) (fun h110 => ?_)
      · skip
        rw [if_pos (Or.inl h110)] at hr
        subst hr
        exact jx_ls (by exact ⟨rfl, rfl, trivial⟩) (key129 K hK hP (fun q => absurd q h110))
      · refine jx_aload_n dX11_island_113 rfl ?_
        refine jx_getIE dX11_island_114 flX11_214 rfl rfl (hP.1.2.1.2.1) ?_
        refine jx_ifN_eq (a := (tKd tp m b)) 129 dX11_island_117 (by decide) (by omega) (fun h117 => ?_) (fun h117 => ?_)
        · rw [if_pos (Or.inr h117)] at hr
          subst hr
          exact jx_ls (by exact ⟨rfl, rfl, trivial⟩) (key129 K hK hP (fun q => ⟨(hx q).2.1, (hx q).2.2.2⟩))
        · subst h110
          rw [if_neg (fun q => by rcases q with q | q; exact q rfl; exact h117 q)] at hr
          obtain ⟨hg, hT, hs0, W, H, np, len, hB⟩ := hx rfl
          have hg : m - b < g + 1 := hg
          have hl := li_le (T := T) (tp := tp) (sz := m) (seen := seen) (x := (b, 0, bp)) hbz
          have hl1 : b ≤ (liBody tp m seen (b, 0, bp) T).1.1 := hl.1
          refine jx_aload_n dX11_island_120 rfl ?_
          refine jx_iload_n dX11_island_121 rfl ?_
          refine jx_VRi (as := [.int _]) dX11_island_122 mlX11_356 okX11_readLine viX11_readLine rfl rfl rfl rfl rfl (by decide) (Nat.le_of_ble_eq_true rfl) (tX11_readLine hW hR hP hT hB hs hs0) (fun x122 t122 hq122 => ?_)
          obtain ⟨rfl, K2, rfl, hK2, hP2, hT2⟩ := hq122
          have hso := sn_or seen hs (kLn tp m (b, 0, bp)) kLn_64
          refine jx_istore_n dX11_island_125 rfl (by decide) ?_
          refine jx_goto 106 dX11_island_126 (by decide) ?_
          refine jx_ls (by exact ⟨rfl, rfl, rfl, trivial⟩) (ih K2 _ _ _ (eqM_t hK hK2) hP2 hso.1 (fun q => ?_) hr)
          have q0 := pMk_0 q
          have hBb := BT_body hB hbz rfl hm7 q0
          refine ⟨?_, hT2 q, fun q2 => ?_, W, H, hBb⟩
          · have e : pMk tp m 59 (liBody tp m seen (b, 0, bp) T).1 = (nxt tp m (liBody tp m seen (b, 0, bp) T).1.1, 0, (liBody tp m seen (b, 0, bp) T).1.2.2) ∧ tKd tp m (liBody tp m seen (b, 0, bp) T).1.1 = 3 := by
              unfold pMk at q ⊢
              rw [if_pos q0] at q ⊢
              by_cases z : mkQ tp m (liBody tp m seen (b, 0, bp) T).1.1 0 59 = true
              · rw [if_pos z]
                have z2 := z
                unfold mkQ at z2
                simp only [Bool.and_eq_true, decide_eq_true_eq] at z2
                exact ⟨rfl, z2.1.2⟩
              · rw [if_neg z] at q; cases q
            rw [e.1]
            have := nxt_lt (tp := tp) hl.2 (by rw [e.2]; decide)
            show m - nxt tp m (liBody tp m seen (b, 0, bp) T).1.1 < g
            have h9 := (nxt_le (tp := tp) hl.2).2
            omega
          · have q3 := hso.2 q2
            rw [li_16 (kLn_32 q3.2)]
            exact hs0 q3.1
  have e17 : isl0 I m 1069 19 = nI m := by unfold isl0; simp [upI]
  have hbg := islV_bg I m
  have hTK : TK (begH (isl0 I m)) m tp := ⟨(beg_ne (by decide) (by decide) (by decide) (by decide)).trans e17, by omega, fun k hk => ⟨(beg_ne (by decide) (by decide) (by decide) (by decide)).trans (by show isl0 I m 1085 k = _; unfold isl0; rw [upI_nea (by decide), upI_nea (by decide), upI_nea (by decide), upI_nea (by decide), upI_nea (by decide), upI_nea (by decide)]; exact (htp k (by omega)).1), (htp k (by omega)).2⟩⟩
  have hat : begH (isl0 I m) 1069 18 = nI 0 := (beg_ne (by decide) (by decide) (by decide) (by decide)).trans (by unfold isl0; simp [upI]; rfl)
  have hbd0 : begH (isl0 I m) 1069 24 = nI 0 := (beg_ne (by decide) (by decide) (by decide) (by decide)).trans (by unfold isl0; simp [upI]; rfl)
  have hTL0 : TLS (begH (isl0 I m)) (islV I m) := islV_tl I m
  have hx0z : tBeg tp m 0 ≤ m := (scn_le (p := fun k => blkQ (tp k)) (sz := m) _ 0 rfl (by omega)).2
  unfold islE at hres0
  refine jx_aload_n dX11_island_0 rfl ?_
  refine jx_iconst (v := 0) dX11_island_1 (by decide) ?_
  refine jx_putI dX11_island_2 flX11_187 rfl rfl (fun r h => by cases h; rfl) ?_
  refine jx_iload_n dX11_island_5 rfl ?_
  refine jx_ifN_lt (a := m) 17 dX11_island_6 (by decide) (by omega) ?_
  refine jx_iload_n dX11_island_9 rfl ?_
  refine jx_aload_n dX11_island_10 rfl ?_
  refine jx_getIE dX11_island_11 flX11_198 rfl rfl ((upI_j (by decide)).trans ht) ?_
  refine jx_icmpN_le (a := m) (b := tn) 23 dX11_island_14 (by decide) (by omega) (by omega) (fun h14 => ?_) (fun h14 => ?_)
  · refine jx_aload_n dX11_island_23 rfl ?_
    refine jx_iconst (v := 0) dX11_island_24 (by decide) ?_
    refine jx_putI dX11_island_25 flX11_198 rfl rfl (fun r h => by cases h; rfl) ?_
    refine jx_aload_n dX11_island_28 rfl ?_
    refine jx_iload_n dX11_island_29 rfl ?_
    refine jx_putI dX11_island_30 flX11_201 rfl rfl (fun r h => by cases h; rfl) ?_
    refine jx_aload_n dX11_island_33 rfl ?_
    refine jx_iconst (v := 0) dX11_island_34 (by decide) ?_
    refine jx_putI dX11_island_35 flX11_204 rfl rfl (fun r h => by cases h; rfl) ?_
    refine jx_aload_n dX11_island_38 rfl ?_
    refine jx_iconst (v := 0) dX11_island_39 (by decide) ?_
    refine jx_putI dX11_island_40 flX11_240 rfl rfl (fun r h => by cases h; rfl) ?_
    refine jx_aload_n dX11_island_43 rfl ?_
    refine jx_iconst (v := -1) dX11_island_44 (by decide) ?_
    refine jx_putI dX11_island_45 flX11_78 rfl rfl (fun r h => by cases h; rfl) ?_
    refine jx_aload_n dX11_island_48 rfl ?_
    refine jx_Vv (as := []) dX11_island_49 mlX11_181 okX11_begin viX11_begin rfl rfl rfl rfl rfl (by decide) (Nat.le_of_ble_eq_true rfl) (tX11_begin hW hR) ?_
    refine jx_aload_n dX11_island_52 rfl ?_
    refine jx_VRv (as := []) dX11_island_53 mlX11_265 okX11_stepOn viX11_stepOn rfl rfl rfl rfl rfl (by decide) (Nat.le_of_ble_eq_true rfl) (tX11_stepOn (I := begH (isl0 I m)) (a := 0) hW hR hTK hat (by omega)) (fun t53 hq53 => ?_)
    obtain ⟨J1, rfl, he1, hts⟩ := hq53
    have hP1 : P3 J1 m tp (tBeg tp m 0, 0, 0) := ⟨⟨hTK.t he1, hts, hx0z, (he1 1069 24 (by decide)).trans hbd0, by show 0 ≤ 5; omega⟩, fun q => absurd rfl q⟩
    have hM1 : eqM (isl0 I m) J1 := eqM_t (eqL_M (beg_L _)) (eqL_M (eqN_L (eqT_n he1)))
    have hT1 : TLS J1 (islV I m) := TLS_s hTL0 (eqN_L (eqT_n he1)) (sameR_r _) (TL_n hTL0.1 (eqT_n he1))
    refine jx_aload_n dX11_island_56 rfl ?_
    refine jx_ldcSW 51 dX11_island_57 rfl rfl rfl (by decide) ?_
    refine jx_Vi (as := [.ref _]) dX11_island_60 mlX11_254 okX11_is viX11_is rfl rfl rfl rfl rfl (by decide) (Nat.le_of_ble_eq_true rfl) (tX11_is hW hR hP1.1 okSan) ?_
    refine jx_ifB_eq 104 dX11_island_63 (by decide) (fun h63 => ?_) (fun h63 => ?_)
    · rw [if_neg (show ¬ isX tp m (tBeg tp m 0, 0, 0) wSan = true from by unfold isX; rw [h63]; decide)] at hres0
      refine jx_iconst (v := 0) dX11_island_104 (by decide) ?_
      refine jx_istore_n dX11_island_105 rfl (by decide) ?_
      exact jx_ls (by exact ⟨rfl, rfl, rfl, trivial⟩) (key106 701 J1 (tBeg tp m 0, 0, 0) (islV I m) 0 hM1 hP1 (by omega) (fun _ => ⟨by omega, hT1, fun _ => hbg.1 16 (by omega), 6, 4, 0, 0, BT_bg hbg (hbg.1 0 (by omega)) (hbg.1 1 (by omega)) (by omega)⟩) hres0)
    · rw [if_pos (show isX tp m (tBeg tp m 0, 0, 0) wSan = true from h63)] at hres0
      refine jx_aload_n dX11_island_66 rfl ?_
      refine jx_VRv (as := []) dX11_island_67 mlX11_265 okX11_stepOn viX11_stepOn rfl rfl rfl rfl rfl (by decide) (Nat.le_of_ble_eq_true rfl) (tX11_stepOn hW hR hP1.1.1 hP1.1.2.1.1 (tEnd_le hP1.1.2.2.1).2) (fun t67 hq67 => ?_)
      obtain ⟨J2, rfl, he2, hts2⟩ := hq67
      have hP2 : P3 J2 m tp (stX tp m (tBeg tp m 0, 0, 0)) := P3_step hP1 he2 hts2
      have hT2 := TL_n hT1.1 (eqT_n he2)
      refine jx_aload_n dX11_island_70 rfl ?_
      refine jx_getR dX11_island_71 flX11_34 rfl rfl (hR _ _ _ rfl) ?_
      refine jx_bipush (v := 17) dX11_island_74 (by decide) ?_
      refine jx_aload_n dX11_island_76 rfl ?_
      refine jx_iconst (v := 3) dX11_island_77 (by decide) ?_
      refine jx_bipush (v := 9) dX11_island_78 (by decide) ?_
      refine jx_VRi (as := [.int _, .int _]) dX11_island_80 mlX11_271 okX11_readNumber viX11_readNumber rfl rfl rfl rfl rfl (by decide) (Nat.le_of_ble_eq_true rfl) (tX11_readNumber (lo := 3) (hi := 9) (b := (stX tp m (tBeg tp m 0, 0, 0)).1) (bd := (stX tp m (tBeg tp m 0, 0, 0)).2.1) (bp := (stX tp m (tBeg tp m 0, 0, 0)).2.2) hW hR hP2 (by omega) (by omega)) (fun x80 t80 hq80 => ?_)
      obtain ⟨rfl, J3, rfl, he3, hP3⟩ := hq80
      have hQ3 := P3_u (a := 1072) (k := 17) (v := nI (vNu tp m 3 9 (stX tp m (tBeg tp m 0, 0, 0)))) hP3 (by decide) (by decide)
      have hA3 := TL_uk (k := 17) (TL_n hT2 he3) 1072 0 (nI (vNu tp m 3 9 (stX tp m (tBeg tp m 0, 0, 0)))) rfl
      have hL3 := eqL_u (a := 1072) (k := 17) (v := nI (vNu tp m 3 9 (stX tp m (tBeg tp m 0, 0, 0)))) (eqL_t (eqN_L (eqT_n he2)) (eqN_L he3)) rfl
      refine jx_iastN (17) dX11_island_83 rfl (rfl) (by omega) (by omega) ?_
      refine jx_aload_n dX11_island_84 rfl ?_
      refine jx_getR dX11_island_85 flX11_34 rfl rfl (hR _ _ _ rfl) ?_
      refine jx_bipush (v := 18) dX11_island_88 (by decide) ?_
      refine jx_aload_n dX11_island_90 rfl ?_
      refine jx_iconst (v := 1) dX11_island_91 (by decide) ?_
      refine jx_bipush (v := 7) dX11_island_92 (by decide) ?_
      refine jx_VRi (as := [.int _, .int _]) dX11_island_94 mlX11_271 okX11_readNumber viX11_readNumber rfl rfl rfl rfl rfl (by decide) (Nat.le_of_ble_eq_true rfl) (tX11_readNumber (lo := 1) (hi := 7) (b := (pNu tp m 3 9 (stX tp m (tBeg tp m 0, 0, 0))).1) (bd := (pNu tp m 3 9 (stX tp m (tBeg tp m 0, 0, 0))).2.1) (bp := (pNu tp m 3 9 (stX tp m (tBeg tp m 0, 0, 0))).2.2) hW hR hQ3 (by omega) (by omega)) (fun x94 t94 hq94 => ?_)
      obtain ⟨rfl, J4, rfl, he4, hP4⟩ := hq94
      have hQ4 := P3_u (a := 1072) (k := 18) (v := nI (vNu tp m 1 7 (pNu tp m 3 9 (stX tp m (tBeg tp m 0, 0, 0))))) hP4 (by decide) (by decide)
      have hA4 := TL_uk (k := 18) (TL_n hA3 he4) 1072 1 (nI (vNu tp m 1 7 (pNu tp m 3 9 (stX tp m (tBeg tp m 0, 0, 0))))) rfl
      have hL4 := eqL_u (a := 1072) (k := 18) (v := nI (vNu tp m 1 7 (pNu tp m 3 9 (stX tp m (tBeg tp m 0, 0, 0))))) (eqL_t hL3 (eqN_L he4)) rfl
      refine jx_iastN (18) dX11_island_97 rfl (rfl) (by omega) (by omega) ?_
      refine jx_aload_n dX11_island_98 rfl ?_
      refine jx_bipush (v := 59) dX11_island_99 (by decide) ?_
      refine jx_VRv (as := [.int _]) dX11_island_101 mlX11_281 okX11_mark viX11_mark rfl rfl rfl rfl rfl (by decide) (Nat.le_of_ble_eq_true rfl) (tX11_mark (c := 59) (b := (pNu tp m 1 7 (pNu tp m 3 9 (stX tp m (tBeg tp m 0, 0, 0)))).1) (bd := (pNu tp m 1 7 (pNu tp m 3 9 (stX tp m (tBeg tp m 0, 0, 0)))).2.1) (bp := (pNu tp m 1 7 (pNu tp m 3 9 (stX tp m (tBeg tp m 0, 0, 0)))).2.2) hW hR hQ4 (by omega)) (fun t101 hq101 => ?_)
      obtain ⟨J5, rfl, he5, hP5⟩ := hq101
      have hL5 := eqL_t hL4 (eqN_L he5)
      refine jx_iconst (v := 0) dX11_island_104 (by decide) ?_
      refine jx_istore_n dX11_island_105 rfl (by decide) ?_
      refine jx_ls (by exact ⟨rfl, rfl, rfl, trivial⟩) (key106 701 J5 _ _ 0 (eqM_t hM1 (eqL_M hL5)) hP5 (by omega) (fun q => ?_) hres0)
      have q3 : (pNu tp m 1 7 (pNu tp m 3 9 (stX tp m (tBeg tp m 0, 0, 0)))).2.1 = 0 := pMk_0 q
      have q2 := pNu_0 q3
      have v1 := vNu_lo q3
      have v2 := vNu_lo q2
      have w1 : vNu tp m 1 7 (pNu tp m 3 9 (stX tp m (tBeg tp m 0, 0, 0))) ≤ 7 := vNu_le
      have w2 : vNu tp m 3 9 (stX tp m (tBeg tp m 0, 0, 0)) ≤ 9 := vNu_le
      refine ⟨by omega, TLS_s hT1 hL5 (sameR_u (sameR_u (sameR_r _) (by decide) (by decide)) (by decide) (by decide)) (TL_n hA4 he5), fun _ => ?_, _, _, 0, 0, BT_sands hbg ⟨v2, w2, v1, w1⟩⟩
      rw [upI_j (by decide), upI_j (by decide)]
      exact hbg.1 16 (by omega)
  · exact absurd h14 (by omega)
end RK9
section RKF
variable {w : jWD} {l : Launch} {n : Nat} {I J : Nat → Nat → Int32} {L : Nat → Nat → Int64} {R : Nat → Nat → Option Nat}
theorem tX11_islandF (hW : jWok w l) {tn : Nat} (ht : I 1069 17 = nI tn) (ht7 : tn ≤ 700) (m : Int32) (hv : ¬ (0 ≤ m.toInt ∧ m.toInt ≤ (tn : Int))) : jCD w l mX11_island 3 [.ref 1069, .int m] (n, shE, I, L, R) (some (.int 0)) (n, shE, upI I 1069 2 1, L, R) := by
  refine jCD_of hW (by decide) rfl (Nat.le_of_ble_eq_true rfl) ?_
  have key : jWP w l mX11_island 3 0 0 (fun r t => r = some (.int 0) ∧ t = (n, shE, upI I 1069 2 1, L, R)) (fun _ _ => False) 17 (lv_args 0 [.ref 1069, .int m]) [] (n, shE, upI I 1069 2 0, L, R) := by
    refine jx_aload_n dX11_island_17 rfl ?_
    refine jx_iconst (v := 1) dX11_island_18 (by decide) ?_
    refine jx_Vi (as := [.int _]) dX11_island_19 mlX11_351 okX11_fail viX11_fail rfl rfl rfl rfl rfl (by decide) (Nat.le_of_ble_eq_true rfl) (tX11_fail hW _) ?_
    refine jx_iret dX11_island_22 rfl ?_
    exact ⟨rfl, by rw [up_up]⟩
  refine jx_aload_n dX11_island_0 rfl ?_
  refine jx_iconst (v := 0) dX11_island_1 (by decide) ?_
  refine jx_putI dX11_island_2 flX11_187 rfl rfl (fun r h => by cases h; rfl) ?_
  refine jx_iload_n dX11_island_5 rfl ?_
  refine jx_if_lt 17 dX11_island_6 (by decide) (fun _ => key) (fun h0 => ?_)
  refine jx_iload_n dX11_island_9 rfl ?_
  refine jx_aload_n dX11_island_10 rfl ?_
  refine jx_getIE dX11_island_11 flX11_198 rfl rfl ((upI_j (by decide)).trans ht) ?_
  refine jx_icmp_le 23 dX11_island_14 (by decide) (fun h1 => ?_) (fun _ => key)
  exfalso
  have a1 := Int32.le_iff_toInt_le.mp h1
  rw [nI_toInt (by omega)] at a1
  have a0 : ¬ m.toInt < 0 := fun q => h0 (Int32.lt_iff_toInt_lt.mpr q)
  exact hv ⟨by omega, a1⟩
end RKF
