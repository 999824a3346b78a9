/-! THE REFERENCE: tests -/
section RD1
variable {w : jWD} {l : Launch} {n : Nat} {I J : Nat → Nat → Int32} {L : Nat → Nat → Int64} {R : Nat → Nat → Option Nat}

set_option maxHeartbeats 1000000 in
set_option maxRecDepth 20000 in
theorem tX11_readNot (hW : jWok w l) (hR : RS R) {sz d a : Nat} {tp : Nat → Nat} {F : ((Nat × Nat × Nat) × List Int32 → (Nat × Nat × Nat) × List Int32)} (hd : 6 ≤ d) (hF : CE w l n L R sz tp mX11_readSum d a F) (hm : moE sz F) : CE w l n L R sz tp mX11_readNot (d + 1) a (fun y => rpt (-28) (ntL tp sz 6 y.1).1 (lpL tp sz (cMk tp sz 60 61 (-24) (-25)) F 1 (F ((ntL tp sz 6 y.1).2, y.2)))) := by
  rintro I ⟨x0, acc⟩ hRE0
  refine jRv_of hW (by decide) rfl (Nat.le_of_ble_eq_true rfl) ?_
  show jWP w l mX11_readNot (d + 1) 0 0 (fun v t => v = none ∧ ∃ J, t = (n, shE, J, L, R) ∧ eqE I J ∧ RE J sz tp (rpt (-28) (ntL tp sz 6 x0).1 (lpL tp sz (cMk tp sz 60 61 (-24) (-25)) F 1 (F ((ntL tp sz 6 x0).2, acc))))) (fun _ _ => False) 0 _ [] _
  obtain ⟨a1, a2, a3, a4, a5⟩ := ntL_le (tp := tp) 6 x0 hRE0.sz.1
  have hs7 := hRE0.sz.2.1
  have hal : acc.length < x0.1 := hRE0.2.2.2
  generalize hN : (ntL tp sz 6 x0).1 = N at a2 a5 ⊢
  generalize hX : (ntL tp sz 6 x0).2 = X at a1 a2 a3 ⊢
  obtain ⟨b0, b1, b2, b3⟩ := hm (X, acc) a1
  have b1 : X.1 ≤ (F (X, acc)).1.1 := b1
  have b3 : (F (X, acc)).2.length + X.1 ≤ acc.length + (F (X, acc)).1.1 := b3
  generalize hY1 : F (X, acc) = y1 at b0 b1 b2 b3 ⊢
  obtain ⟨c0, c1, c2, c3⟩ := mo_lp (tp := tp) (c := (cMk tp sz 60 61 (-24) (-25))) (F := F) okMk hm 1 y1 b2
  generalize hY2 : lpL tp sz (cMk tp sz 60 61 (-24) (-25)) F 1 y1 = y2 at c0 c1 c2 c3 ⊢
  generalize hres : rpt (-28) N y2 = res
  have hgap : y2.1.2.1 = 0 → y2.2.length + N < y2.1.1 := by
    intro q
    have z1 : y1.1.2.1 = 0 := by
      by_cases z : y1.1.2.1 = 0
      · exact z
      · rw [c0 z] at q; exact q
    have z0 : X.2.1 = 0 := by
      by_cases z : X.2.1 = 0
      · exact z
      · have e := b0 z
        rw [e] at z1
        exact z1
    have := a2 z0
    omega
  have key96 : ∀ (j k : Nat) (I1 : Nat → Nat → Int32) (y : (Nat × Nat × Nat) × List Int32), j + k = N → RE I1 sz tp y → eqE I I1 → rpt (-28) j y = res → (y.1.2.1 = 0 → y.2.length + j < y.1.1) → jWP w l mX11_readNot (d + 1) 0 0 (fun v t => v = none ∧ ∃ J, t = (n, shE, J, L, R) ∧ eqE I J ∧ RE J sz tp res) (fun _ _ => False) 96 [(0, .ref 1069), (1, .int (nI a)), (2, .int (nI N)), (3, .int (nI k))] [] (n, shE, I1, L, R) := by
    intro j
    induction j with
    | zero =>
      intro k I1 y hjk hRE he0 hr hg
      refine jx_iload_n dX11_readNot_96 rfl ?_
      refine jx_iload_n dX11_readNot_97 rfl ?_
      refine jx_icmpN_ge (a := k) (b := N) 113 dX11_readNot_98 (by decide) (by omega) (by omega) (fun h98 => ?_) (fun h98 => ?_)
      · refine jx_vret dX11_readNot_113 rfl ?_
        exact ⟨rfl, _, rfl, he0, by rw [← hr]; exact hRE⟩
      · exact absurd h98 (by omega)
    | succ j ih =>
      intro k I1 y hjk hRE he0 hr hg
      have hz := hRE.sz
      have hyl := hRE.2.2.2
      refine jx_iload_n dX11_readNot_96 rfl ?_
      refine jx_iload_n dX11_readNot_97 rfl ?_
      refine jx_icmpN_ge (a := k) (b := N) 113 dX11_readNot_98 (by decide) (by omega) (by omega) (fun h98 => ?_) (fun h98 => ?_)
      · exact absurd h98 (by omega)
      · refine jx_aload_n dX11_readNot_101 rfl ?_
        refine jx_bipush (v := -28) dX11_readNot_102 (by decide) ?_
        refine jx_Vv (as := [.int _]) dX11_readNot_104 mlX11_274 okX11_lay viX11_lay rfl rfl rfl rfl rfl (by omega) (Nat.le_of_ble_eq_true rfl) (tX11_lay hW hR (bd := y.1.2.1) (len := y.2.length) hz.2.2.2 hz.2.2.1 hRE.2.1 (by omega) _) ?_
        refine jx_iinc dX11_readNot_107 rfl (v := nI (k + 1)) (nI_1 _) (by decide) ?_
        refine jx_goto 96 dX11_readNot_110 (by decide) ?_
        exact jx_ls (by exact ⟨rfl, rfl, rfl, rfl, trivial⟩) (ih (k + 1) _ _ (by omega) (RE_lay hRE (-28) (fun q => by have := hg q; omega)) (eqE_t he0 (layH_e _ _ _ _)) hr (fun q => by rw [lyY_1] at q ⊢; have := hg q; have := lyY_l (-28) y; omega))
  have key94 : ∀ (I1 : Nat → Nat → Int32), RE I1 sz tp y2 → eqE I I1 → jWP w l mX11_readNot (d + 1) 0 0 (fun v t => v = none ∧ ∃ J, t = (n, shE, J, L, R) ∧ eqE I J ∧ RE J sz tp res) (fun _ _ => False) 94 [(0, .ref 1069), (1, .int (nI a)), (2, .int (nI N))] [] (n, shE, I1, L, R) := by
    intro I1 hRE he0
    refine jx_iconst (v := 0) dX11_readNot_94 (by decide) ?_
    refine jx_istore_n dX11_readNot_95 rfl (by decide) ?_
    exact jx_ls (by exact ⟨rfl, rfl, rfl, rfl, trivial⟩) (key96 N 0 I1 y2 (by omega) hRE he0 hres hgap)
  have key45 : ∀ (I1 : Nat → Nat → Int32), RE I1 sz tp y1 → eqE I I1 → jWP w l mX11_readNot (d + 1) 0 0 (fun v t => v = none ∧ ∃ J, t = (n, shE, J, L, R) ∧ eqE I J ∧ RE J sz tp res) (fun _ _ => False) 45 [(0, .ref 1069), (1, .int (nI a)), (2, .int (nI N))] [] (n, shE, I1, L, R) := by
    intro I1 hRE he0
    obtain ⟨⟨b, bd, bp⟩, ac1⟩ := y1
    have hP : P3 I1 sz tp (b, bd, bp) := hRE.1
    have hlb : ac1.length < b := hRE.2.2.2
    have hbz : b ≤ sz := b2
    have hnl := nxt_le (tp := tp) hbz
    have key80 : ∀ s : Int32, (cMk tp sz 60 61 (-24) (-25)) (b, bd, bp) = some s → jWP w l mX11_readNot (d + 1) 0 0 (fun v t => v = none ∧ ∃ J, t = (n, shE, J, L, R) ∧ eqE I J ∧ RE J sz tp res) (fun _ _ => False) 80 [(0, .ref 1069), (1, .int (nI a)), (2, .int (nI N)), (3, .int s)] [] (n, shE, I1, L, R) := by
      intro s hc
      have hck := okMk _ _ hc
      refine jx_aload_n dX11_readNot_80 rfl ?_
      refine jx_VRv (as := []) dX11_readNot_81 mlX11_265 okX11_stepOn viX11_stepOn rfl rfl rfl rfl rfl (by omega) (Nat.le_of_ble_eq_true rfl) (tX11_stepOn hW hR hP.1.1 hP.1.2.1.1 (tEnd_le hP.1.2.2.1).2) (fun t81 hq81 => ?_)
      obtain ⟨J1, rfl, he1, hts⟩ := hq81
      have hP1 := P3_step hP he1 hts
      have hgt : b < nxt tp sz b := nxt_lt hbz hck.2
      have hR1 : RE J1 sz tp (stX tp sz (b, bd, bp), ac1) := RE_n hRE (eqT_n he1) hP1 (by show ac1.length < nxt tp sz b; omega)
      refine jx_aload_n dX11_readNot_84 rfl ?_
      refine jx_iload_n dX11_readNot_85 rfl ?_
      refine jx_VRv (as := [.int _]) dX11_readNot_86 mlX11_295 okX11_readSum viX11_readSum rfl rfl rfl rfl rfl (by omega) (Nat.le_of_ble_eq_true rfl) (hF J1 (stX tp sz (b, bd, bp), ac1) hR1) (fun t86 hq86 => ?_)
      obtain ⟨J2, rfl, he2, hR2⟩ := hq86
      obtain ⟨-, m1, m2, m3⟩ := hm (stX tp sz (b, bd, bp), ac1) hnl.2
      have m1 : nxt tp sz b ≤ (F (stX tp sz (b, bd, bp), ac1)).1.1 := m1
      have m3 : (F (stX tp sz (b, bd, bp), ac1)).2.length + nxt tp sz b ≤ ac1.length + (F (stX tp sz (b, bd, bp), ac1)).1.1 := m3
      refine jx_aload_n dX11_readNot_89 rfl ?_
      refine jx_iload_n dX11_readNot_90 rfl ?_
      refine jx_Vv (as := [.int _]) dX11_readNot_91 mlX11_274 okX11_lay viX11_lay rfl rfl rfl rfl rfl (by omega) (Nat.le_of_ble_eq_true rfl) (tX11_lay hW hR (bd := (F (stX tp sz (b, bd, bp), ac1)).1.2.1) (len := (F (stX tp sz (b, bd, bp), ac1)).2.length) hR2.sz.2.2.2 hR2.sz.2.2.1 hR2.2.1 (by omega) _) ?_
      exact jx_ls (by exact ⟨rfl, rfl, rfl, trivial⟩) (key94 _ (by rw [← hY2, lpL_s (y := ((b, bd, bp), ac1)) hc]; exact RE_lay hR2 s (fun _ => by omega)) (eqE_t he0 (eqE_t (eqN_E (eqT_n he1)) (eqE_t he2 (layH_e _ _ _ _)))))
    refine jx_aload_n dX11_readNot_45 rfl ?_
    refine jx_bipush (v := 60) dX11_readNot_46 (by decide) ?_
    refine jx_Vi (as := [.int _]) dX11_readNot_48 mlX11_258 okX11_isMarked viX11_isMarked rfl rfl rfl rfl rfl (by omega) (Nat.le_of_ble_eq_true rfl) (tX11_isMarked (c := 60) hW hR hP.1 (by omega)) ?_
    refine jx_ifB_ne 63 dX11_readNot_51 (by decide) (fun h51 => ?_) (fun h51 => ?_)
    · refine jx_aload_n dX11_readNot_63 rfl ?_
      refine jx_bipush (v := 60) dX11_readNot_64 (by decide) ?_
      refine jx_Vi (as := [.int _]) dX11_readNot_66 mlX11_258 okX11_isMarked viX11_isMarked rfl rfl rfl rfl rfl (by omega) (Nat.le_of_ble_eq_true rfl) (tX11_isMarked (c := 60) hW hR hP.1 (by omega)) ?_
      refine jx_ifB_eq 77 dX11_readNot_69 (by decide) (fun h69 => ?_) (fun h69 => ?_)
      · refine jx_bipush (v := -25) dX11_readNot_77 (by decide) ?_
        refine jx_istore_n dX11_readNot_79 rfl (by decide) ?_
        exact jx_ls (by exact ⟨rfl, rfl, rfl, rfl, trivial⟩) (key80 _ (by unfold cMk mkX; first | rw [if_pos h69] | rw [if_neg (by rw [h69]; decide), if_pos h60] | exact absurd (h51.symm.trans h69) (by decide)))
      · refine jx_bipush (v := -24) dX11_readNot_72 (by decide) ?_
        refine jx_goto 79 dX11_readNot_74 (by decide) ?_
        refine jx_istore_n dX11_readNot_79 rfl (by decide) ?_
        exact jx_ls (by exact ⟨rfl, rfl, rfl, rfl, trivial⟩) (key80 _ (by unfold cMk mkX; first | rw [if_pos h69] | rw [if_neg (by rw [h69]; decide), if_pos h60] | exact absurd (h51.symm.trans h69) (by decide)))
    · refine jx_aload_n dX11_readNot_54 rfl ?_
      refine jx_bipush (v := 61) dX11_readNot_55 (by decide) ?_
      refine jx_Vi (as := [.int _]) dX11_readNot_57 mlX11_258 okX11_isMarked viX11_isMarked rfl rfl rfl rfl rfl (by omega) (Nat.le_of_ble_eq_true rfl) (tX11_isMarked (c := 61) hW hR hP.1 (by omega)) ?_
      refine jx_ifB_eq 94 dX11_readNot_60 (by decide) (fun h60 => ?_) (fun h60 => ?_)
      · exact jx_ls (by exact ⟨rfl, rfl, rfl, trivial⟩) (key94 _ (by rw [← hY2, lpL_n (y := ((b, bd, bp), ac1)) (by unfold cMk mkX; rw [if_neg (by rw [h51]; decide), if_neg (by rw [h60]; decide)])]; exact hRE) he0)
      · refine jx_aload_n dX11_readNot_63 rfl ?_
        refine jx_bipush (v := 60) dX11_readNot_64 (by decide) ?_
        refine jx_Vi (as := [.int _]) dX11_readNot_66 mlX11_258 okX11_isMarked viX11_isMarked rfl rfl rfl rfl rfl (by omega) (Nat.le_of_ble_eq_true rfl) (tX11_isMarked (c := 60) hW hR hP.1 (by omega)) ?_
        refine jx_ifB_eq 77 dX11_readNot_69 (by decide) (fun h69 => ?_) (fun h69 => ?_)
        · refine jx_bipush (v := -25) dX11_readNot_77 (by decide) ?_
          refine jx_istore_n dX11_readNot_79 rfl (by decide) ?_
          exact jx_ls (by exact ⟨rfl, rfl, rfl, rfl, trivial⟩) (key80 _ (by unfold cMk mkX; first | rw [if_pos h69] | rw [if_neg (by rw [h69]; decide), if_pos h60] | exact absurd (h51.symm.trans h69) (by decide)))
        · refine jx_bipush (v := -24) dX11_readNot_72 (by decide) ?_
          refine jx_goto 79 dX11_readNot_74 (by decide) ?_
          refine jx_istore_n dX11_readNot_79 rfl (by decide) ?_
          exact jx_ls (by exact ⟨rfl, rfl, rfl, rfl, trivial⟩) (key80 _ (by unfold cMk mkX; first | rw [if_pos h69] | rw [if_neg (by rw [h69]; decide), if_pos h60] | exact absurd (h51.symm.trans h69) (by decide)))
  have key40 : ∀ (I1 : Nat → Nat → Int32), RE I1 sz tp (X, acc) → eqE I I1 → jWP w l mX11_readNot (d + 1) 0 0 (fun v t => v = none ∧ ∃ J, t = (n, shE, J, L, R) ∧ eqE I J ∧ RE J sz tp res) (fun _ _ => False) 40 [(0, .ref 1069), (1, .int (nI a)), (2, .int (nI N))] [] (n, shE, I1, L, R) := by
    intro I1 hRE he0
    refine jx_aload_n dX11_readNot_40 rfl ?_
    refine jx_iload_n dX11_readNot_41 rfl ?_
    refine jx_VRv (as := [.int _]) dX11_readNot_42 mlX11_295 okX11_readSum viX11_readSum rfl rfl rfl rfl rfl (by omega) (Nat.le_of_ble_eq_true rfl) (hF I1 (X, acc) hRE) (fun t42 hq42 => ?_)
    obtain ⟨J0, rfl, he1, hR0⟩ := hq42
    rw [hY1] at hR0
    exact jx_ls (by exact ⟨rfl, rfl, rfl, trivial⟩) (key45 J0 hR0 (eqE_t he0 he1))
  have key2b : ∀ (I1 : Nat → Nat → Int32), RE I1 sz tp (X, acc) → X.2.1 ≠ 0 → eqE I I1 → jWP w l mX11_readNot (d + 1) 0 0 (fun v t => v = none ∧ ∃ J, t = (n, shE, J, L, R) ∧ eqE I J ∧ RE J sz tp res) (fun _ _ => False) 2 [(0, .ref 1069), (1, .int (nI a)), (2, .int (nI N))] [] (n, shE, I1, L, R) := by
    intro I1 hRE hb he0
    obtain ⟨b, bd, bp⟩ := X
    have hP : P3 I1 sz tp (b, bd, bp) := hRE.1
    refine jx_aload_n dX11_readNot_2 rfl ?_
    refine jx_ldcSW 57 dX11_readNot_3 rfl rfl rfl (by decide) ?_
    refine jx_Vi (as := [.ref _]) dX11_readNot_6 mlX11_254 okX11_is viX11_is rfl rfl rfl rfl rfl (by omega) (Nat.le_of_ble_eq_true rfl) ((isW_b (tp := tp) (sz := sz) (b := b) (cs := [110, 111, 116]) hb) ▸ tX11_is hW hR hP.1 okNot) ?_
    refine jx_ifB_eq 40 dX11_readNot_9 (by decide) (fun h9 => ?_) (fun h9 => by cases h9)
    exact jx_ls (by exact ⟨rfl, rfl, rfl, trivial⟩) (key40 I1 hRE he0)
  have key2 : ∀ (r k : Nat) (I1 : Nat → Nat → Int32) (x : Nat × Nat × Nat), k + r = 6 → RE I1 sz tp (x, acc) → eqE I I1 → k + (ntL tp sz r x).1 = N → (ntL tp sz r x).2 = X → jWP w l mX11_readNot (d + 1) 0 0 (fun v t => v = none ∧ ∃ J, t = (n, shE, J, L, R) ∧ eqE I J ∧ RE J sz tp res) (fun _ _ => False) 2 [(0, .ref 1069), (1, .int (nI a)), (2, .int (nI k))] [] (n, shE, I1, L, R) := by
    intro r
    induction r with
    | zero =>
      rintro k I1 ⟨b, bd, bp⟩ hk hRE he0 hn hx
      have hP : P3 I1 sz tp (b, bd, bp) := hRE.1
      have hb5 : bd ≤ 5 := hP.1.2.2.2.2
      have hlb : acc.length < b := hRE.2.2.2
      refine jx_aload_n dX11_readNot_2 rfl ?_
      refine jx_ldcSW 57 dX11_readNot_3 rfl rfl rfl (by decide) ?_
      refine jx_Vi (as := [.ref _]) dX11_readNot_6 mlX11_254 okX11_is viX11_is rfl rfl rfl rfl rfl (by omega) (Nat.le_of_ble_eq_true rfl) (tX11_is hW hR hP.1 okNot) ?_
      refine jx_ifB_eq 40 dX11_readNot_9 (by decide) (fun h9 => ?_) (fun h9 => ?_)
      · have e : ntL tp sz 0 (b, bd, bp) = (0, (b, bd, bp)) := by unfold ntL isX; rw [if_neg (by rw [h9]; decide)]
        rw [e] at hn hx
        have hn : k = N := hn
        have hx : (b, bd, bp) = X := hx
        subst hn hx
        exact jx_ls (by exact ⟨rfl, rfl, rfl, trivial⟩) (key40 I1 hRE he0)
      · refine jx_iload_n dX11_readNot_12 rfl ?_
        refine jx_bipush (v := 6) dX11_readNot_13 (by decide) ?_
        refine jx_icmpN_ne (a := k) (b := 6) 23 dX11_readNot_15 (by decide) (by omega) (by omega) (fun h15 => ?_) (fun h15 => ?_)
        · exact absurd h15 (by omega)
        · have hb0 : bd = 0 := (isX_t (x := (b, bd, bp)) h9).1
          subst hb0
          have hw : P3 (wrg I1 0 2) sz tp (b, 2, b) := P3_wr hP (k := 2) (by omega) (by omega)
          have e : ntL tp sz 0 (b, 0, bp) = (1, (b, 2, b)) := by unfold ntL isX; rw [if_pos h9]; rfl
          rw [e] at hn hx
          have hn : k + 1 = N := hn
          have hx : (b, 2, b) = X := hx
          subst hn hx
          refine jx_aload_n dX11_readNot_18 rfl ?_
          refine jx_iconst (v := 2) dX11_readNot_19 (by decide) ?_
          refine jx_Vv (as := [.int _]) dX11_readNot_20 mlX11_261 okX11_wrong viX11_wrong rfl rfl rfl rfl rfl (by omega) (Nat.le_of_ble_eq_true rfl) (tX11_wrongP (k := 2) hW hP.1) ?_
          refine jx_iinc dX11_readNot_23 rfl (v := nI (k + 1)) (nI_1 _) (by decide) ?_
          refine jx_aload_n dX11_readNot_26 rfl ?_
          refine jx_getIE dX11_readNot_27 flX11_240 rfl rfl (hw.1.2.2.2.1) ?_
          refine jx_ifN_ne (a := 2) 2 dX11_readNot_30 (by decide) (by decide) (fun h30 => ?_) (fun h30 => absurd h30 (by decide))
          exact jx_ls (by exact ⟨rfl, rfl, rfl, trivial⟩) (key2b _ (RE_n hRE (wrg_n 0 2) hw hlb) (by show 2 ≠ 0; decide) (eqE_t he0 (eqN_E (wrg_n 0 2))))
    | succ r ih =>
      rintro k I1 ⟨b, bd, bp⟩ hk hRE he0 hn hx
      have hP : P3 I1 sz tp (b, bd, bp) := hRE.1
      have hb5 : bd ≤ 5 := hP.1.2.2.2.2
      have hlb : acc.length < b := hRE.2.2.2
      have hbz : b ≤ sz := hRE.sz.1
      refine jx_aload_n dX11_readNot_2 rfl ?_
      refine jx_ldcSW 57 dX11_readNot_3 rfl rfl rfl (by decide) ?_
      refine jx_Vi (as := [.ref _]) dX11_readNot_6 mlX11_254 okX11_is viX11_is rfl rfl rfl rfl rfl (by omega) (Nat.le_of_ble_eq_true rfl) (tX11_is hW hR hP.1 okNot) ?_
      refine jx_ifB_eq 40 dX11_readNot_9 (by decide) (fun h9 => ?_) (fun h9 => ?_)
      · have e : ntL tp sz (r + 1) (b, bd, bp) = (0, (b, bd, bp)) := by unfold ntL isX; rw [if_neg (by rw [h9]; decide)]
        rw [e] at hn hx
        have hn : k = N := hn
        have hx : (b, bd, bp) = X := hx
        subst hn hx
        exact jx_ls (by exact ⟨rfl, rfl, rfl, trivial⟩) (key40 I1 hRE he0)
      · refine jx_iload_n dX11_readNot_12 rfl ?_
        refine jx_bipush (v := 6) dX11_readNot_13 (by decide) ?_
        refine jx_icmpN_ne (a := k) (b := 6) 23 dX11_readNot_15 (by decide) (by omega) (by omega) (fun h15 => ?_) (fun h15 => ?_)
        · have hb0 : bd = 0 := (isX_t (x := (b, bd, bp)) h9).1
          subst hb0
          have e : ntL tp sz (r + 1) (b, 0, bp) = ((ntL tp sz r (stX tp sz (b, 0, bp))).1 + 1, (ntL tp sz r (stX tp sz (b, 0, bp))).2) := by rw [ntL]; unfold isX; rw [if_pos h9]
          rw [e] at hn hx
          refine jx_iinc dX11_readNot_23 rfl (v := nI (k + 1)) (nI_1 _) (by decide) ?_
          refine jx_aload_n dX11_readNot_26 rfl ?_
          refine jx_getIE dX11_readNot_27 flX11_240 rfl rfl (hP.1.2.2.2.1) ?_
          refine jx_ifN_ne (a := 0) 2 dX11_readNot_30 (by decide) (by decide) (fun h30 => absurd h30 (by decide)) (fun h30 => ?_)
          refine jx_aload_n dX11_readNot_33 rfl ?_
          refine jx_VRv (as := []) dX11_readNot_34 mlX11_265 okX11_stepOn viX11_stepOn rfl rfl rfl rfl rfl (by omega) (Nat.le_of_ble_eq_true rfl) (tX11_stepOn hW hR hP.1.1 hP.1.2.1.1 (tEnd_le hP.1.2.2.1).2) (fun t34 hq34 => ?_)
          obtain ⟨J1, rfl, he1, hts⟩ := hq34
          have hP1 := P3_step hP he1 hts
          have hgt : b < nxt tp sz b := nxt_lt hbz (by rw [(isX_t (x := (b, 0, bp)) h9).2]; decide)
          refine jx_goto 2 dX11_readNot_37 (by decide) ?_
          exact jx_ls (by exact ⟨rfl, rfl, rfl, trivial⟩) (ih (k + 1) J1 (stX tp sz (b, 0, bp)) (by omega) (RE_n hRE (eqT_n he1) hP1 (by show acc.length < nxt tp sz b; omega)) (eqE_t he0 (eqN_E (eqT_n he1))) (by rw [← hn]; show k + 1 + _ = k + (_ + 1); omega) hx)
        · exact absurd h15 (by omega)
  refine jx_iconst (v := 0) dX11_readNot_0 (by decide) ?_
  refine jx_istore_n dX11_readNot_1 rfl (by decide) ?_
  exact jx_ls (by exact ⟨rfl, rfl, rfl, trivial⟩) (key2 6 0 I x0 (by omega) hRE0 (eqE_r _) (by rw [hN]; omega) hX)
/-- a rule, e expressions may stand in each other -/
theorem tX11_rule (hW : jWok w l) (hR : RS R) {sz : Nat} {tp : Nat → Nat} : ∀ e, e ≤ 6 → CE w l n L R sz tp mX11_readExpression (9 + 6 * e) (6 - e) (exprE tp sz e)
  | 0, _ => tX11_readExpression (F := fun y => y) hW hR (by omega) (by omega) (fun q => absurd q (by omega)) (fun y hy => ⟨fun _ => rfl, Nat.le_refl _, hy, Nat.le_refl _⟩) (fun y => by rw [exprE]; rfl)
  | e + 1, he => by
    have ih := tX11_rule hW hR (sz := sz) (tp := tp) e (by omega)
    have hm := mo_expr (tp := tp) (sz := sz) e
    have e1 : 6 - e = 6 - (e + 1) + 1 := by omega
    rw [e1] at ih
    have h1 := tX11_readPart hW hR (by omega) ih hm
    have h2 := tX11_readProduct hW hR (by omega) h1 (mo_part hm)
    have h3 := tX11_readSum hW hR (by omega) h2 (mo_prod hm)
    have h4 := tX11_readNot hW hR (by omega) h3 (mo_sum hm)
    have h5 := tX11_readAnd hW hR (by omega) h4 (mo_not hm)
    exact tX11_readExpression (d := 9 + 6 * e + 1 + 1 + 1 + 1 + 1) hW hR (by omega) (by omega) (fun _ => h5) (mo_and hm) (fun y => by rw [exprE, if_neg (show ¬ (6 - (e + 1) = 6) by omega)]; rfl)
end RD1
