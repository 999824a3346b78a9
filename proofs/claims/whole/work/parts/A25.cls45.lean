/-! THE CLASS: a whole text is read -/
section CZ21
variable {w : jWD} {l : Launch} {n : Nat} {I J K : Nat → Nat → Int32} {L M N : Nat → Nat → Int64} {R R' : Nat → Nat → Option Nat} {sz : Nat} {tp : Nat → Nat} {x : Nat × Nat × Nat} {T : Nat → Nat → Int32} {h W H np len s : Nat}
def eqO (h : Nat) (I J : Nat → Nat → Int32) : Prop := ∀ b j : Nat, ¬ (b = 1004 ∧ (j = 3 ∨ j = 4)) → ¬ (b = 1005 ∧ 1 ≤ j ∧ j ≤ 7) → b ≠ 1006 → b ≠ 1007 → ¬ (h ≤ b ∧ b < h + 16) → J b j = I b j
theorem eqO_t (h1 : eqO h I J) (h2 : eqO h J K) : eqO h I K := fun b j a1 a2 a3 a4 a5 => (h2 b j a1 a2 a3 a4 a5).trans (h1 b j a1 a2 a3 a4 a5)
theorem eqW_O (h1 : eqW h I J) : eqO h I J := fun b j a1 a2 a3 a4 a5 => h1 b j (decide_eq_false (by omega)) a3 a4
/-- what reading a text leaves as it was -/
def Fra (h : Nat) (I J : Nat → Nat → Int32) (L M : Nat → Nat → Int64) (R R' : Nat → Nat → Option Nat) : Prop := (∀ a k, ¬ (a = 1006 ∧ k = 3) → ¬ (a = 1004 ∧ k = 2) → R' a k = R a k) ∧ R' 1004 2 = some h ∧ eqO h I J ∧ eqGL h L M ∧ CPk J
theorem Fra.rs (hF : Fra h I J L M R R') (hR : RS R) : RS R' := fun a k x hx => by
  rw [hF.1 a k (fun q => by rw [q.1, q.2] at hx; cases hx) (fun q => by rw [q.1, q.2] at hx; cases hx)]
  exact hR a k x hx
theorem Fra.g (hF : Fra h I J L M R R') (hh : h = 1008 ∨ h = 1024) (he : eqG h J K) (hl : eqGL h M N) : Fra h I K L N R R' :=
  ⟨hF.1, hF.2.1, eqO_t hF.2.2.1 (eqW_O (eqG_W he)), eqGL_t hF.2.2.2.1 hl, ⟨hF.2.2.2.2.choose, (he 1006 6 (gF_6 hh _ _ (Or.inl rfl))).trans hF.2.2.2.2.choose_spec.1, hF.2.2.2.2.choose_spec.2⟩⟩

set_option maxHeartbeats 1000000 in
set_option maxRecDepth 20000 in
theorem tX5_readAll (hW : jWok w l) (hR : RS R) (hh : h = 1008 ∨ h = 1024) (hz : sz ≤ 700) (ht : ∀ k, k < sz → I 1001 k = sb (tp k) ∧ tp k < 256) (hcp : CPk I) (hT : bgT T) : jRi w l mX5_readAll 10 [.ref 1004, .int (nI sz), .ref h] (n, shE, I, L, R) (fun r t => (∃ J M R', t = (n, shE, J, M, R') ∧ Fra h I J L M R R' ∧ r = nI (islE tp sz T).1.2.1 ∧ ((islE tp sz T).1.2.1 ≠ 0 → J 1005 7 = nI (islE tp sz T).1.2.2) ∧ ((islE tp sz T).1.2.1 = 0 → ∃ W H np len, BT (islE tp sz T).2 W H np len ∧ CIs J M h (islE tp sz T).2 W H np len ∧ ∀ k, k < len → okS ((islE tp sz T).2 1082 k)))) := by
  refine jRi_of hW (by decide) rfl (Nat.le_of_ble_eq_true rfl) ?_
  generalize hres0 : islE tp sz T = res
  have key107 : ∀ (x : Nat × Nat × Nat) (T : Nat → Nat → Int32) (J : Nat → Nat → Int32) (M : Nat → Nat → Int64) (R' : Nat → Nat → Option Nat), Fra h I J L M R R' → C3 J sz tp x → (x, T) = res → (x.2.1 = 0 → ∃ W H np len, BT T W H np len ∧ CTl J M h T W H ∧ OKT T) → jWP w l mX5_readAll 10 0 0 (fun v t => ∃ r, v = some (.int r) ∧ (∃ J M R', t = (n, shE, J, M, R') ∧ Fra h I J L M R R' ∧ r = nI res.1.2.1 ∧ (res.1.2.1 ≠ 0 → J 1005 7 = nI res.1.2.2) ∧ (res.1.2.1 = 0 → ∃ W H np len, BT res.2 W H np len ∧ CIs J M h res.2 W H np len ∧ ∀ k, k < len → okS (res.2 1082 k)))) (fun _ _ => False) 107 [(0, .ref 1004)] [] (n, shE, J, M, R') := by
    intro x T J M R' hF hx hr hT
    subst hr
    have hRt := hF.2.1
    have hR := hF.rs hR
    rcases hh with rfl | rfl
    all_goals
      refine jx_aload_n dX5_readAll_107 rfl ?_
      refine jx_getR dX5_readAll_108 flX5_33 rfl rfl (by first | exact hRt | exact hR _ _ _ rfl) ?_
      refine jx_getR dX5_readAll_111 flX5_69 rfl rfl (by first | exact hRt | exact hR _ _ _ rfl) ?_
      refine jx_VRv (as := []) dX5_readAll_114 mlX5_72 okX8_settle viX8_settle rfl rfl rfl rfl rfl (by decide) (Nat.le_of_ble_eq_true rfl) (tX8_settle (h := _) hW hR (by decide)) (fun t114 hq114 => ?_)
      obtain ⟨M2, lim, rfl, m1, l1, l2, l3, l4⟩ := hq114
      refine jx_aload_n dX5_readAll_117 rfl ?_
      refine jx_getR dX5_readAll_118 flX5_14 rfl rfl (by first | exact hRt | exact hR _ _ _ rfl) ?_
      refine jx_getIE dX5_readAll_121 flX5_77 rfl rfl (hx.2.2.2.1) ?_
      refine jx_iret dX5_readAll_124 rfl ?_
      refine ⟨_, rfl, J, M2, R', rfl, ⟨hF.1, hF.2.1, hF.2.2.1, fun b j q1 q2 => (m1 b j q2).trans (hF.2.2.2.1 b j q1 q2), hF.2.2.2.2⟩, rfl, hx.2.2.2.2, fun q => ?_⟩
      obtain ⟨W, H, np, len, hB, hC, hO⟩ := hT q
      exact ⟨W, H, np, len, hB, CIs_of (by decide) hC hB m1 l1 l2 l3 l4, fun k hk => hO k (by rw [hB.1.2.2.2.2.2.2.1.1, cN_nI (by have := hB.1.2.2.2.2.2.2.1.2.1; omega)]; exact hk)⟩
  have key53 : ∀ (g i : Nat), i + g = 701 → ∀ (b : Bool) (x : Nat × Nat × Nat) (T : Nat → Nat → Int32) (s : Nat) (J : Nat → Nat → Int32) (M : Nat → Nat → Int64) (R' : Nat → Nat → Option Nat), Fra h I J L M R R' → C3 J sz tp x → lnL tp sz g x T s = res → b = decide (x.2.1 = 0) → (b = true → ∃ W H np len, LnS R' sz tp h W H np len J M x T s ∧ KT T W H ∧ OKT T ∧ s < 64 ∧ (s &&& 32 = 0 → T 1072 16 = 0)) → jWP w l mX5_readAll 10 0 0 (fun v t => ∃ r, v = some (.int r) ∧ (∃ J M R', t = (n, shE, J, M, R') ∧ Fra h I J L M R R' ∧ r = nI res.1.2.1 ∧ (res.1.2.1 ≠ 0 → J 1005 7 = nI res.1.2.2) ∧ (res.1.2.1 = 0 → ∃ W H np len, BT res.2 W H np len ∧ CIs J M h res.2 W H np len ∧ ∀ k, k < len → okS (res.2 1082 k)))) (fun _ _ => False) 53 [(0, .ref 1004), (3, .int (jb b)), (4, .int (nI i))] [] (n, shE, J, M, R') := by
    intro g
    induction g with
    | zero =>
      intro i hi b x T s J M R' hF hx hr hb hS
      have hr : (x, T) = res := hr
      subst hb
      refine jx_iload dX5_readAll_53 rfl ?_
      refine jx_sipush (v := 700) dX5_readAll_55 (by decide) ?_
      refine jx_icmpN_gt (a := i) (b := 700) 107 dX5_readAll_58 (by decide) (by omega) (by omega) (fun h58 => ?_) (fun h58 => ?_)
      · exact jx_ls (by exact ⟨rfl, trivial⟩) (key107 x T J M R' hF hx hr (fun q => let ⟨W, H, np, len, a, _, c, _⟩ := hS (decide_eq_true q); ⟨W, H, np, len, a.2.2.2.2.2.2, a.2.2.2.2.1, c⟩))
      · exact absurd h58 (by omega)
    | succ g ih =>
      intro i hi b x T s J M R' hF hx hr hb hS
      rw [lnL] at hr
      have hkl := kdC_lt hx.1 x.1
      have hks := (kdC_s (tp := tp) (sz := sz) (b := x.1)).1
      subst hb
      have hR0 := hR
      have hR := hF.rs hR0
      have hRt := hF.2.1
      refine jx_iload dX5_readAll_53 rfl ?_
      refine jx_sipush (v := 700) dX5_readAll_55 (by decide) ?_
      refine jx_icmpN_gt (a := i) (b := 700) 107 dX5_readAll_58 (by decide) (by omega) (by omega) (fun h58 => ?_) (fun h58 => ?_)
      · exact absurd h58 (by omega)
      · refine jx_iload_n dX5_readAll_61 rfl ?_
        refine jx_ifB_eq 107 dX5_readAll_62 (by decide) (fun h62 => ?_) (fun h62 => ?_)
        · have hx0 := of_decide_eq_false h62
          rw [if_pos (Or.inl hx0)] at hr
          exact jx_ls (by exact ⟨rfl, trivial⟩) (key107 x T J M R' hF hx hr (fun q => absurd q hx0))
        · have hx0 := of_decide_eq_true h62
          have hS0 := hS h62
          obtain ⟨W, H, np, len, hS, hK, hO, hs6, h16⟩ := hS0
          refine jx_aload_n dX5_readAll_65 rfl ?_
          refine jx_getR dX5_readAll_66 flX5_14 rfl rfl (by first | exact hRt | exact hR _ _ _ rfl) ?_
          refine jx_getIE dX5_readAll_69 flX5_59 rfl rfl (hx.2.1.2.2.1) ?_
          refine jx_iconst (v := 1) dX5_readAll_72 (by decide) ?_
          refine jx_icmpN_eq (a := (kdC tp sz x.1)) (b := 1) 107 dX5_readAll_73 (by decide) (by omega) (by omega) (fun h73 => ?_) (fun h73 => ?_)
          · rw [if_pos (Or.inr (hks.mp h73))] at hr
            exact jx_ls (by exact ⟨rfl, trivial⟩) (key107 x T J M R' hF hx hr (fun q => ⟨W, H, np, len, hS.2.2.2.2.2.2, hS.2.2.2.2.1, hO⟩))
          · rw [if_neg (fun q => q.elim (fun z => z hx0) (fun z => h73 (hks.mpr z)))] at hr
            refine jx_aload_n dX5_readAll_76 rfl ?_
            refine jx_VRi (as := []) dX5_readAll_77 mlX5_62 okX5_readLine viX5_readLine rfl rfl rfl rfl rfl (by decide) (Nat.le_of_ble_eq_true rfl) (tX5_readLine (h := h) hW hR hS hK hF.2.2.2.2 hs6 h16) (fun x77 t77 hq77 => ?_)
            obtain ⟨J1, M1, R1, rfl, r1, w1, l1, p1, hq2⟩ := hq77
            have hF1 : Fra h I J1 L M1 R R1 := ⟨fun a k q1 q2 => (r1 a k q1).trans (hF.1 a k q1 q2), (r1 1004 2 (by decide)).trans hF.2.1, eqO_t hF.2.2.1 (eqW_O w1), eqGL_t hF.2.2.2.1 l1, p1⟩
            have hR1 := hF1.rs hR0
            rcases hq2 with ⟨rfl, z1, z2, z3, z4⟩ | ⟨rfl, z1, z2⟩
            · refine jx_ifB_eq 99 dX5_readAll_80 (by decide) (fun h80 => by cases h80) (fun h80 => ?_)
              refine jx_aload_n dX5_readAll_83 rfl ?_
              refine jx_getR dX5_readAll_84 flX5_14 rfl rfl (hR1 _ _ _ rfl) ?_
              refine jx_bipush (v := 59) dX5_readAll_87 (by decide) ?_
              refine jx_VRi (as := [.int _]) dX5_readAll_89 mlX5_65 okX9_takeSign viX9_takeSign rfl rfl rfl rfl rfl (by decide) (Nat.le_of_ble_eq_true rfl) (tX9_takeSign_x (c := 59) hW hR1 z2 z1 (by decide) (by decide)) (fun x89 t89 hq89 => ?_)
              obtain ⟨J2, rfl, fJ2, gJ2, rfl⟩ := hq89
              refine jx_ifB_eq 99 dX5_readAll_92 (by decide) (fun h92 => ?_) (fun h92 => ?_)
              · have hz := of_decide_eq_false h92
                refine jx_iconst (v := 0) dX5_readAll_99 (by decide) ?_
                refine jx_istore_n dX5_readAll_100 rfl (by decide) ?_
                refine jx_iinc dX5_readAll_101 rfl (v := nI (i + 1)) (nI_1 _) (by decide) ?_
                refine jx_goto 53 dX5_readAll_104 (by decide) ?_
                exact jx_ls (by exact ⟨rfl, rfl, rfl, trivial⟩) (ih (i + 1) (by omega) false _ _ _ J2 M1 R1 (hF1.g hh (eqR_G fJ2) (eqGL_r _ M1)) gJ2 hr (decide_eq_false hz).symm (fun q => by cases q))
              · have hz := of_decide_eq_true h92
                refine jx_iconst (v := 1) dX5_readAll_95 (by decide) ?_
                refine jx_goto 100 dX5_readAll_96 (by decide) ?_
                refine jx_istore_n dX5_readAll_100 rfl (by decide) ?_
                refine jx_iinc dX5_readAll_101 rfl (v := nI (i + 1)) (nI_1 _) (by decide) ?_
                refine jx_goto 53 dX5_readAll_104 (by decide) ?_
                obtain ⟨np2, len2, hB2⟩ := BT_body (x := x) (tp := tp) (sz := sz) (seen := s) hS.2.2.2.2.2.2 hx.2.2.1 hx0 hx.1.2.1 z1
                have hn2 := (BT_d hB2).2.2.2.2.2
                refine jx_ls (by exact ⟨rfl, rfl, rfl, trivial⟩) (ih (i + 1) (by omega) true _ _ _ J2 M1 R1 (hF1.g hh (eqR_G fJ2) (eqGL_r _ M1)) gJ2 hr (decide_eq_true hz).symm (fun _ => ⟨W, H, np2, len2, ⟨hh, hF1.2.1, gJ2, hz, z3.r hh fJ2 (by omega), (fJ2 1004 3 (by decide)).trans z4, hB2⟩, KT_body hS.2.2.2.2.2.2 hK, OKT_body hx.2.2.1 hx.1.2.1 hO, (sn_or s hs6 _ kLn_64).1, fun q => ?_⟩))
                have q2 := (sn_or s hs6 _ kLn_64).2 q
                exact (li_16 (kLn_32 q2.2)).trans (h16 q2.1)
            · refine jx_ifB_eq 99 dX5_readAll_80 (by decide) (fun h80 => ?_) (fun h80 => by cases h80)
              refine jx_iconst (v := 0) dX5_readAll_99 (by decide) ?_
              refine jx_istore_n dX5_readAll_100 rfl (by decide) ?_
              refine jx_iinc dX5_readAll_101 rfl (v := nI (i + 1)) (nI_1 _) (by decide) ?_
              refine jx_goto 53 dX5_readAll_104 (by decide) ?_
              exact jx_ls (by exact ⟨rfl, rfl, rfl, trivial⟩) (ih (i + 1) (by omega) false _ _ _ J1 M1 R1 hF1 z2 hr (decide_eq_false z1).symm (fun q => by cases q))
  have hR1 : RS (upR R 1004 2 (some h)) := RS_u hR rfl
  have fr1 : ∀ a k, ¬ (a = 1006 ∧ k = 3) → ¬ (a = 1004 ∧ k = 2) → upR R 1004 2 (some h) a k = R a k := fun a k _ q => by unfold upR; rw [if_neg q]
  have b4 : T 1072 0 = nI 6 ∧ T 1072 1 = nI 4 := ⟨hT.1 0 (by decide), hT.1 1 (by decide)⟩
  have hB0 := BT_bg (W := 6) (H := 4) hT b4.1 b4.2 (by decide)
  have k16 : T 1072 16 = 0 := hT.1 16 (by decide)
  have kO : ∀ T' : Nat → Nat → Int32, T' 1072 16 = 0 → OKT T' := fun T' q k hk => by rw [q] at hk; exact absurd hk (Nat.not_lt_zero k)
  have kK : ∀ (T' : Nat → Nat → Int32) (W H : Nat), W * H ≤ 63 → (∀ c, c < 63 → T' 1074 c = 0) → T' 1072 2 = 0 → T' 1072 3 = 0 → KT T' W H := fun T' W H hwh q1 q2 q3 => by
    have z : ∀ v : Int32, v ≠ 0 → cntN (fun c => decide (c < W * H ∧ T' 1074 c = v)) 64 = 0 := fun v hv => by
      rw [cntN_cc (g := fun _ => false) 64 (fun c _ => decide_eq_false (fun q => hv (by rw [← q.2]; exact q1 c (by omega))))]; decide
    exact ⟨by rw [z 1 (by decide), q2]; rfl, by rw [z 2 (by decide), q3]; rfl⟩
  rcases hh with rfl | rfl
  all_goals
    refine jx_aload_n dX5_readAll_0 rfl ?_
    refine jx_aload_n dX5_readAll_1 rfl ?_
    refine jx_putR dX5_readAll_2 flX5_33 rfl ⟨_, rfl⟩ (fun r h => by cases h; rfl) ?_
    refine jx_aload_n dX5_readAll_5 rfl ?_
    refine jx_getR dX5_readAll_6 flX5_33 rfl rfl upR_s ?_
    refine jx_VRv (as := []) dX5_readAll_9 mlX5_37 okX1_clear viX1_clear rfl rfl rfl rfl rfl (by decide) (Nat.le_of_ble_eq_true rfl) (tX1_clear (h := _) hW hR1 (by decide) hT) (fun t9 hq9 => ?_)
    obtain ⟨J1, M1, rfl, a1, a2, hC1⟩ := hq9
    refine jx_aload_n dX5_readAll_12 rfl ?_
    refine jx_iconst (v := 0) dX5_readAll_13 (by decide) ?_
    refine jx_putI dX5_readAll_14 flX5_42 rfl rfl (fun r h => by cases h; rfl) ?_
    refine jx_aload_n dX5_readAll_17 rfl ?_
    refine jx_getR dX5_readAll_18 flX5_14 rfl rfl (hR1 _ _ _ rfl) ?_
    refine jx_iload_n dX5_readAll_21 rfl ?_
    refine jx_VRv (as := [.int _]) dX5_readAll_22 mlX5_45 okX9_open viX9_open rfl rfl rfl rfl rfl (by decide) (Nat.le_of_ble_eq_true rfl) (tX9_open (sz := sz) (tp := tp) hW hR1 hz (fun k hk => by rw [upI_nea (by decide), a1 1001 k (by decide)]; exact ht k hk)) (fun t22 hq22 => ?_)
    obtain ⟨J2, rfl, b1, b2⟩ := hq22
    have hC2 : CTl J2 M1 _ T 6 4 := hC1.f (fun b j q1 q2 _ => (b1 b j (by omega)).trans (upI_nea (by omega))) (fun _ => rfl) (by rw [hT.1 10 (by decide)]; decide)
    have hs2 : J2 1004 3 = nI (1024 * 0) := (b1 1004 3 (by decide)).trans upI_s
    have hF2 : Fra _ I J2 L M1 R _ := ⟨fr1, upR_s, fun b j q1 q2 q3 q4 q5 => (b1 b j q2).trans ((upI_ne (fun q => q1 ⟨q.1, Or.inl q.2⟩)).trans (a1 b j (by omega))), fun b j q1 q2 => a2 b j q1, ⟨hcp.choose, (b1 1006 6 (by decide)).trans ((upI_nea (by decide)).trans ((a1 1006 6 (by decide)).trans hcp.choose_spec.1)), hcp.choose_spec.2⟩⟩
    refine jx_aload_n dX5_readAll_25 rfl ?_
    refine jx_getR dX5_readAll_26 flX5_14 rfl rfl (hR1 _ _ _ rfl) ?_
    refine jx_ldcS 1 dX5_readAll_29 rfl rfl rfl (by decide) ?_
    refine jx_Vi (as := [.ref _]) dX5_readAll_31 mlX5_51 okX9_isWord viX9_isWord rfl rfl rfl rfl rfl (by decide) (Nat.le_of_ble_eq_true rfl) (tX9_isWord_x hW hR1 (b2 0) rfl (i := 1) (cs := wSan) ⟨by decide, ⟨_, rfl, rfl⟩, by decide, by decide⟩) ?_
    refine jx_ifB_eq 44 dX5_readAll_34 (by decide) (fun h34 => ?_) (fun h34 => ?_)
    · unfold islE at hres0
      rw [if_neg (by rw [h34]; decide)] at hres0
      refine jx_iconst (v := 1) dX5_readAll_44 (by decide) ?_
      refine jx_goto 49 dX5_readAll_45 (by decide) ?_
      refine jx_istore_n dX5_readAll_49 rfl (by decide) ?_
      refine jx_iconst (v := 0) dX5_readAll_50 (by decide) ?_
      refine jx_istore dX5_readAll_51 (by decide) ?_
      refine jx_ls (by exact ⟨rfl, rfl, rfl, trivial⟩) (key53 701 0 rfl true (tBeg tp sz 0, 0, 0) T 0 J2 M1 _ hF2 (b2 0) hres0 rfl (fun _ => ⟨6, 4, 0, 0, ⟨by decide, upR_s, b2 0, rfl, hC2, hs2, hB0⟩, kK T 6 4 (by decide) (fun c hc => (hT.2 c hc).2.1) (hT.1 2 (by decide)) (hT.1 3 (by decide)), kO T k16, by decide, fun _ => k16⟩))
    · unfold islE at hres0
      rw [if_pos h34] at hres0
      refine jx_aload_n dX5_readAll_37 rfl ?_
      refine jx_VRi (as := []) dX5_readAll_38 mlX5_55 okX5_readSands viX5_readSands rfl rfl rfl rfl rfl (by decide) (Nat.le_of_ble_eq_true rfl) (tX5_readSands (x := (tBeg tp sz 0, 0, 0)) hW hR1 (b2 0) rfl (by decide) upR_s hC2 hT) (fun x38 t38 hq38 => ?_)
      obtain ⟨J3, M3, rfl, e3, l3, g3, g4, rfl⟩ := hq38
      have hF3 := hF2.g (by decide) e3 l3
      refine jx_ifB_eq 48 dX5_readAll_41 (by decide) (fun h41 => ?_) (fun h41 => ?_)
      · have hz := of_decide_eq_false h41
        refine jx_iconst (v := 0) dX5_readAll_48 (by decide) ?_
        refine jx_istore_n dX5_readAll_49 rfl (by decide) ?_
        refine jx_iconst (v := 0) dX5_readAll_50 (by decide) ?_
        refine jx_istore dX5_readAll_51 (by decide) ?_
        exact jx_ls (by exact ⟨rfl, rfl, rfl, trivial⟩) (key53 701 0 rfl false _ _ 0 J3 M3 _ hF3 g3 hres0 (decide_eq_false hz).symm (fun q => by cases q))
      · have hz := of_decide_eq_true h41
        refine jx_iconst (v := 1) dX5_readAll_44 (by decide) ?_
        refine jx_goto 49 dX5_readAll_45 (by decide) ?_
        refine jx_istore_n dX5_readAll_49 rfl (by decide) ?_
        refine jx_iconst (v := 0) dX5_readAll_50 (by decide) ?_
        refine jx_istore dX5_readAll_51 (by decide) ?_
        obtain ⟨⟨q1, q2, q3, q4⟩, hC3, hs3⟩ := g4 hz
        have hB3 := BT_sands hT ⟨q1, q2, q3, q4⟩
        obtain ⟨-, -, o2, o3⟩ := bgT_sands hT (nI (vNu tp sz 3 9 (stX tp sz (tBeg tp sz 0, 0, 0)))) (nI (vNu tp sz 1 7 (pNu tp sz 3 9 (stX tp sz (tBeg tp sz 0, 0, 0)))))
        have hWH : (vNu tp sz 3 9 (stX tp sz (tBeg tp sz 0, 0, 0))) * (vNu tp sz 1 7 (pNu tp sz 3 9 (stX tp sz (tBeg tp sz 0, 0, 0)))) ≤ 9 * 7 := Nat.mul_le_mul q2 q4
        exact jx_ls (by exact ⟨rfl, rfl, rfl, trivial⟩) (key53 701 0 rfl true _ _ 0 J3 M3 _ hF3 g3 hres0 (decide_eq_true hz).symm (fun _ => ⟨_, _, 0, 0, ⟨by decide, upR_s, g3, hz, hC3, hs3.trans hs2, hB3⟩, kK _ _ _ hWH (fun c hc => (o3 1074 c (by decide)).trans (hT.2 c hc).2.1) ((o2 2 (by decide)).trans (hT.1 2 (by decide))) ((o2 3 (by decide)).trans (hT.1 3 (by decide))), kO _ ((o2 16 (by decide)).trans k16), by decide, fun _ => (o2 16 (by decide)).trans k16⟩))
end CZ21
