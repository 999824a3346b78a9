/-! THE REFERENCE: products, sums, tests, rules -/
section RC1
variable {w : jWD} {l : Launch} {n : Nat} {I J : Nat → Nat → Int32} {L : Nat → Nat → Int64} {R : Nat → Nat → Option Nat}

set_option maxHeartbeats 1000000 in
set_option maxRecDepth 20000 in
theorem tX11_readProduct (hW : jWok w l) (hR : RS R) {sz d a : Nat} {tp : Nat → Nat} {F : ((Nat × Nat × Nat) × List Int32 → (Nat × Nat × Nat) × List Int32)} (hd : 6 ≤ d) (hF : CE w l n L R sz tp mX11_readPart d a F) (hm : moE sz F) : CE w l n L R sz tp mX11_readProduct (d + 1) a (fun y => lpL tp sz (cMk tp sz 42 47 (-22) (-23)) F 701 (F y)) := by
  intro I y0 hRE0
  refine jRv_of hW (by decide) rfl (Nat.le_of_ble_eq_true rfl) ?_
  show jWP w l mX11_readProduct (d + 1) 0 0 (fun v t => v = none ∧ ∃ J, t = (n, shE, J, L, R) ∧ eqE I J ∧ RE J sz tp (lpL tp sz (cMk tp sz 42 47 (-22) (-23)) F 701 (F y0))) (fun _ _ => False) 0 _ [] _
  generalize hres0 : lpL tp sz (cMk tp sz 42 47 (-22) (-23)) F 701 (F y0) = res
  have key : ∀ (g : Nat) (I1 : Nat → Nat → Int32) (y : (Nat × Nat × Nat) × List Int32), RE I1 sz tp y → eqE I I1 → sz - y.1.1 < g → lpL tp sz (cMk tp sz 42 47 (-22) (-23)) F g y = res → jWP w l mX11_readProduct (d + 1) 0 0 (fun v t => v = none ∧ ∃ J, t = (n, shE, J, L, R) ∧ eqE I J ∧ RE J sz tp res) (fun _ _ => False) 5 [(0, .ref 1069), (1, .int (nI a))] [] (n, shE, I1, L, R) := by
    intro g
    induction g with
    | zero => intro I1 y _ _ h; exact absurd h (by omega)
    | succ g ih =>
      rintro I1 ⟨⟨b, bd, bp⟩, acc⟩ hRE he0 hg hres
      obtain ⟨hbs, hs7, hb5, hbd⟩ := hRE.sz
      have hP : P3 I1 sz tp (b, bd, bp) := hRE.1
      have hlb : acc.length < b := hRE.2.2.2
      have hbz : b ≤ sz := hbs
      have hnl := nxt_le (tp := tp) hbz
      have hg : sz - b < g + 1 := hg
      have key40 : ∀ s : Int32, (cMk tp sz 42 47 (-22) (-23)) (b, bd, bp) = some s → jWP w l mX11_readProduct (d + 1) 0 0 (fun v t => v = none ∧ ∃ J, t = (n, shE, J, L, R) ∧ eqE I J ∧ RE J sz tp res) (fun _ _ => False) 40 [(0, .ref 1069), (1, .int (nI a)), (2, .int s)] [] (n, shE, I1, L, R) := by
        intro s hc
        have hck := okMk _ _ hc
        refine jx_aload_n dX11_readProduct_40 rfl ?_
        refine jx_VRv (as := []) dX11_readProduct_41 mlX11_265 okX11_stepOn viX11_stepOn rfl rfl rfl rfl rfl (by omega) (Nat.le_of_ble_eq_true rfl) (tX11_stepOn hW hR hP.1.1 hP.1.2.1.1 (tEnd_le hP.1.2.2.1).2) (fun t41 hq41 => ?_)
        obtain ⟨J1, rfl, he1, hts⟩ := hq41
        have hP1 := P3_step hP he1 hts
        have hgt : b < nxt tp sz b := nxt_lt hbz hck.2
        have hR1 : RE J1 sz tp (stX tp sz (b, bd, bp), acc) := RE_n hRE (eqT_n he1) hP1 (by show acc.length < nxt tp sz b; omega)
        refine jx_aload_n dX11_readProduct_44 rfl ?_
        refine jx_iload_n dX11_readProduct_45 rfl ?_
        refine jx_VRv (as := [.int _]) dX11_readProduct_46 mlX11_287 okX11_readPart viX11_readPart rfl rfl rfl rfl rfl (by omega) (Nat.le_of_ble_eq_true rfl) (hF J1 (stX tp sz (b, bd, bp), acc) hR1) (fun t46 hq46 => ?_)
        obtain ⟨J2, rfl, he2, hR2⟩ := hq46
        obtain ⟨-, m1, m2, m3⟩ := hm (stX tp sz (b, bd, bp), acc) hnl.2
        have m1 : nxt tp sz b ≤ (F (stX tp sz (b, bd, bp), acc)).1.1 := m1
        have m3 : (F (stX tp sz (b, bd, bp), acc)).2.length + nxt tp sz b ≤ acc.length + (F (stX tp sz (b, bd, bp), acc)).1.1 := m3
        refine jx_aload_n dX11_readProduct_49 rfl ?_
        refine jx_iload_n dX11_readProduct_50 rfl ?_
        refine jx_Vv (as := [.int _]) dX11_readProduct_51 mlX11_274 okX11_lay viX11_lay rfl rfl rfl rfl rfl (by omega) (Nat.le_of_ble_eq_true rfl) (tX11_lay hW hR (bd := (F (stX tp sz (b, bd, bp), acc)).1.2.1) (len := (F (stX tp sz (b, bd, bp), acc)).2.length) hR2.sz.2.2.2 hR2.sz.2.2.1 hR2.2.1 (by omega) _) ?_
        refine jx_goto 5 dX11_readProduct_54 (by decide) ?_
        exact jx_ls (by exact ⟨rfl, rfl, trivial⟩) (ih _ _ (RE_lay hR2 s (fun _ => by omega)) (eqE_t he0 (eqE_t (eqN_E (eqT_n he1)) (eqE_t he2 (layH_e _ _ _ _)))) (by rw [lyY_1]; omega) (by rw [← hres]; exact (lpL_s (y := ((b, bd, bp), acc)) hc).symm))
      refine jx_aload_n dX11_readProduct_5 rfl ?_
      refine jx_bipush (v := 42) dX11_readProduct_6 (by decide) ?_
      refine jx_Vi (as := [.int _]) dX11_readProduct_8 mlX11_258 okX11_isMarked viX11_isMarked rfl rfl rfl rfl rfl (by omega) (Nat.le_of_ble_eq_true rfl) (tX11_isMarked (c := 42) hW hR hP.1 (by omega)) ?_
      refine jx_ifB_ne 23 dX11_readProduct_11 (by decide) (fun h11 => ?_) (fun h11 => ?_)
      · refine jx_aload_n dX11_readProduct_23 rfl ?_
        refine jx_bipush (v := 42) dX11_readProduct_24 (by decide) ?_
        refine jx_Vi (as := [.int _]) dX11_readProduct_26 mlX11_258 okX11_isMarked viX11_isMarked rfl rfl rfl rfl rfl (by omega) (Nat.le_of_ble_eq_true rfl) (tX11_isMarked (c := 42) hW hR hP.1 (by omega)) ?_
        refine jx_ifB_eq 37 dX11_readProduct_29 (by decide) (fun h29 => ?_) (fun h29 => ?_)
        · refine jx_bipush (v := -23) dX11_readProduct_37 (by decide) ?_
          refine jx_istore_n dX11_readProduct_39 rfl (by decide) ?_
          exact jx_ls (by exact ⟨rfl, rfl, rfl, trivial⟩) (key40 _ (by unfold cMk mkX; first | rw [if_pos h29] | rw [if_neg (by rw [h29]; decide), if_pos h20] | exact absurd (h11.symm.trans h29) (by decide)))
        · refine jx_bipush (v := -22) dX11_readProduct_32 (by decide) ?_
          refine jx_goto 39 dX11_readProduct_34 (by decide) ?_
          refine jx_istore_n dX11_readProduct_39 rfl (by decide) ?_
          exact jx_ls (by exact ⟨rfl, rfl, rfl, trivial⟩) (key40 _ (by unfold cMk mkX; first | rw [if_pos h29] | rw [if_neg (by rw [h29]; decide), if_pos h20] | exact absurd (h11.symm.trans h29) (by decide)))
      · refine jx_aload_n dX11_readProduct_14 rfl ?_
        refine jx_bipush (v := 47) dX11_readProduct_15 (by decide) ?_
        refine jx_Vi (as := [.int _]) dX11_readProduct_17 mlX11_258 okX11_isMarked viX11_isMarked rfl rfl rfl rfl rfl (by omega) (Nat.le_of_ble_eq_true rfl) (tX11_isMarked (c := 47) hW hR hP.1 (by omega)) ?_
        refine jx_ifB_eq 57 dX11_readProduct_20 (by decide) (fun h20 => ?_) (fun h20 => ?_)
        · refine jx_vret dX11_readProduct_57 rfl ?_
          exact ⟨rfl, _, rfl, he0, by rw [← hres, lpL_n (y := ((b, bd, bp), acc)) (by unfold cMk mkX; rw [if_neg (by rw [h11]; decide), if_neg (by rw [h20]; decide)])]; exact hRE⟩
        · refine jx_aload_n dX11_readProduct_23 rfl ?_
          refine jx_bipush (v := 42) dX11_readProduct_24 (by decide) ?_
          refine jx_Vi (as := [.int _]) dX11_readProduct_26 mlX11_258 okX11_isMarked viX11_isMarked rfl rfl rfl rfl rfl (by omega) (Nat.le_of_ble_eq_true rfl) (tX11_isMarked (c := 42) hW hR hP.1 (by omega)) ?_
          refine jx_ifB_eq 37 dX11_readProduct_29 (by decide) (fun h29 => ?_) (fun h29 => ?_)
          · refine jx_bipush (v := -23) dX11_readProduct_37 (by decide) ?_
            refine jx_istore_n dX11_readProduct_39 rfl (by decide) ?_
            exact jx_ls (by exact ⟨rfl, rfl, rfl, trivial⟩) (key40 _ (by unfold cMk mkX; first | rw [if_pos h29] | rw [if_neg (by rw [h29]; decide), if_pos h20] | exact absurd (h11.symm.trans h29) (by decide)))
          · refine jx_bipush (v := -22) dX11_readProduct_32 (by decide) ?_
            refine jx_goto 39 dX11_readProduct_34 (by decide) ?_
            refine jx_istore_n dX11_readProduct_39 rfl (by decide) ?_
            exact jx_ls (by exact ⟨rfl, rfl, rfl, trivial⟩) (key40 _ (by unfold cMk mkX; first | rw [if_pos h29] | rw [if_neg (by rw [h29]; decide), if_pos h20] | exact absurd (h11.symm.trans h29) (by decide)))
  refine jx_aload_n dX11_readProduct_0 rfl ?_
  refine jx_iload_n dX11_readProduct_1 rfl ?_
  refine jx_VRv (as := [.int _]) dX11_readProduct_2 mlX11_287 okX11_readPart viX11_readPart rfl rfl rfl rfl rfl (by omega) (Nat.le_of_ble_eq_true rfl) (hF I y0 hRE0) (fun t2 hq2 => ?_)
  obtain ⟨J0, rfl, he0, hR0⟩ := hq2
  have hz := hR0.sz
  exact jx_ls (by exact ⟨rfl, rfl, trivial⟩) (key 701 J0 _ hR0 he0 (by omega) hres0)
set_option maxHeartbeats 1000000 in
set_option maxRecDepth 20000 in
theorem tX11_readSum (hW : jWok w l) (hR : RS R) {sz d a : Nat} {tp : Nat → Nat} {F : ((Nat × Nat × Nat) × List Int32 → (Nat × Nat × Nat) × List Int32)} (hd : 6 ≤ d) (hF : CE w l n L R sz tp mX11_readProduct d a F) (hm : moE sz F) : CE w l n L R sz tp mX11_readSum (d + 1) a (fun y => lpL tp sz (cMk tp sz 43 45 (-20) (-21)) F 701 (F y)) := by
  intro I y0 hRE0
  refine jRv_of hW (by decide) rfl (Nat.le_of_ble_eq_true rfl) ?_
  show jWP w l mX11_readSum (d + 1) 0 0 (fun v t => v = none ∧ ∃ J, t = (n, shE, J, L, R) ∧ eqE I J ∧ RE J sz tp (lpL tp sz (cMk tp sz 43 45 (-20) (-21)) F 701 (F y0))) (fun _ _ => False) 0 _ [] _
  generalize hres0 : lpL tp sz (cMk tp sz 43 45 (-20) (-21)) F 701 (F y0) = res
  have key : ∀ (g : Nat) (I1 : Nat → Nat → Int32) (y : (Nat × Nat × Nat) × List Int32), RE I1 sz tp y → eqE I I1 → sz - y.1.1 < g → lpL tp sz (cMk tp sz 43 45 (-20) (-21)) F g y = res → jWP w l mX11_readSum (d + 1) 0 0 (fun v t => v = none ∧ ∃ J, t = (n, shE, J, L, R) ∧ eqE I J ∧ RE J sz tp res) (fun _ _ => False) 5 [(0, .ref 1069), (1, .int (nI a))] [] (n, shE, I1, L, R) := by
    intro g
    induction g with
    | zero => intro I1 y _ _ h; exact absurd h (by omega)
    | succ g ih =>
      rintro I1 ⟨⟨b, bd, bp⟩, acc⟩ hRE he0 hg hres
      obtain ⟨hbs, hs7, hb5, hbd⟩ := hRE.sz
      have hP : P3 I1 sz tp (b, bd, bp) := hRE.1
      have hlb : acc.length < b := hRE.2.2.2
      have hbz : b ≤ sz := hbs
      have hnl := nxt_le (tp := tp) hbz
      have hg : sz - b < g + 1 := hg
      have key40 : ∀ s : Int32, (cMk tp sz 43 45 (-20) (-21)) (b, bd, bp) = some s → jWP w l mX11_readSum (d + 1) 0 0 (fun v t => v = none ∧ ∃ J, t = (n, shE, J, L, R) ∧ eqE I J ∧ RE J sz tp res) (fun _ _ => False) 40 [(0, .ref 1069), (1, .int (nI a)), (2, .int s)] [] (n, shE, I1, L, R) := by
        intro s hc
        have hck := okMk _ _ hc
        refine jx_aload_n dX11_readSum_40 rfl ?_
        refine jx_VRv (as := []) dX11_readSum_41 mlX11_265 okX11_stepOn viX11_stepOn rfl rfl rfl rfl rfl (by omega) (Nat.le_of_ble_eq_true rfl) (tX11_stepOn hW hR hP.1.1 hP.1.2.1.1 (tEnd_le hP.1.2.2.1).2) (fun t41 hq41 => ?_)
        obtain ⟨J1, rfl, he1, hts⟩ := hq41
        have hP1 := P3_step hP he1 hts
        have hgt : b < nxt tp sz b := nxt_lt hbz hck.2
        have hR1 : RE J1 sz tp (stX tp sz (b, bd, bp), acc) := RE_n hRE (eqT_n he1) hP1 (by show acc.length < nxt tp sz b; omega)
        refine jx_aload_n dX11_readSum_44 rfl ?_
        refine jx_iload_n dX11_readSum_45 rfl ?_
        refine jx_VRv (as := [.int _]) dX11_readSum_46 mlX11_290 okX11_readProduct viX11_readProduct rfl rfl rfl rfl rfl (by omega) (Nat.le_of_ble_eq_true rfl) (hF J1 (stX tp sz (b, bd, bp), acc) hR1) (fun t46 hq46 => ?_)
        obtain ⟨J2, rfl, he2, hR2⟩ := hq46
        obtain ⟨-, m1, m2, m3⟩ := hm (stX tp sz (b, bd, bp), acc) hnl.2
        have m1 : nxt tp sz b ≤ (F (stX tp sz (b, bd, bp), acc)).1.1 := m1
        have m3 : (F (stX tp sz (b, bd, bp), acc)).2.length + nxt tp sz b ≤ acc.length + (F (stX tp sz (b, bd, bp), acc)).1.1 := m3
        refine jx_aload_n dX11_readSum_49 rfl ?_
        refine jx_iload_n dX11_readSum_50 rfl ?_
        refine jx_Vv (as := [.int _]) dX11_readSum_51 mlX11_274 okX11_lay viX11_lay rfl rfl rfl rfl rfl (by omega) (Nat.le_of_ble_eq_true rfl) (tX11_lay hW hR (bd := (F (stX tp sz (b, bd, bp), acc)).1.2.1) (len := (F (stX tp sz (b, bd, bp), acc)).2.length) hR2.sz.2.2.2 hR2.sz.2.2.1 hR2.2.1 (by omega) _) ?_
        refine jx_goto 5 dX11_readSum_54 (by decide) ?_
        exact jx_ls (by exact ⟨rfl, rfl, trivial⟩) (ih _ _ (RE_lay hR2 s (fun _ => by omega)) (eqE_t he0 (eqE_t (eqN_E (eqT_n he1)) (eqE_t he2 (layH_e _ _ _ _)))) (by rw [lyY_1]; omega) (by rw [← hres]; exact (lpL_s (y := ((b, bd, bp), acc)) hc).symm))
      refine jx_aload_n dX11_readSum_5 rfl ?_
      refine jx_bipush (v := 43) dX11_readSum_6 (by decide) ?_
      refine jx_Vi (as := [.int _]) dX11_readSum_8 mlX11_258 okX11_isMarked viX11_isMarked rfl rfl rfl rfl rfl (by omega) (Nat.le_of_ble_eq_true rfl) (tX11_isMarked (c := 43) hW hR hP.1 (by omega)) ?_
      refine jx_ifB_ne 23 dX11_readSum_11 (by decide) (fun h11 => ?_) (fun h11 => ?_)
      · refine jx_aload_n dX11_readSum_23 rfl ?_
        refine jx_bipush (v := 43) dX11_readSum_24 (by decide) ?_
        refine jx_Vi (as := [.int _]) dX11_readSum_26 mlX11_258 okX11_isMarked viX11_isMarked rfl rfl rfl rfl rfl (by omega) (Nat.le_of_ble_eq_true rfl) (tX11_isMarked (c := 43) hW hR hP.1 (by omega)) ?_
        refine jx_ifB_eq 37 dX11_readSum_29 (by decide) (fun h29 => ?_) (fun h29 => ?_)
        · refine jx_bipush (v := -21) dX11_readSum_37 (by decide) ?_
          refine jx_istore_n dX11_readSum_39 rfl (by decide) ?_
          exact jx_ls (by exact ⟨rfl, rfl, rfl, trivial⟩) (key40 _ (by unfold cMk mkX; first | rw [if_pos h29] | rw [if_neg (by rw [h29]; decide), if_pos h20] | exact absurd (h11.symm.trans h29) (by decide)))
        · refine jx_bipush (v := -20) dX11_readSum_32 (by decide) ?_
          refine jx_goto 39 dX11_readSum_34 (by decide) ?_
          refine jx_istore_n dX11_readSum_39 rfl (by decide) ?_
          exact jx_ls (by exact ⟨rfl, rfl, rfl, trivial⟩) (key40 _ (by unfold cMk mkX; first | rw [if_pos h29] | rw [if_neg (by rw [h29]; decide), if_pos h20] | exact absurd (h11.symm.trans h29) (by decide)))
      · refine jx_aload_n dX11_readSum_14 rfl ?_
        refine jx_bipush (v := 45) dX11_readSum_15 (by decide) ?_
        refine jx_Vi (as := [.int _]) dX11_readSum_17 mlX11_258 okX11_isMarked viX11_isMarked rfl rfl rfl rfl rfl (by omega) (Nat.le_of_ble_eq_true rfl) (tX11_isMarked (c := 45) hW hR hP.1 (by omega)) ?_
        refine jx_ifB_eq 57 dX11_readSum_20 (by decide) (fun h20 => ?_) (fun h20 => ?_)
        · refine jx_vret dX11_readSum_57 rfl ?_
          exact ⟨rfl, _, rfl, he0, by rw [← hres, lpL_n (y := ((b, bd, bp), acc)) (by unfold cMk mkX; rw [if_neg (by rw [h11]; decide), if_neg (by rw [h20]; decide)])]; exact hRE⟩
        · refine jx_aload_n dX11_readSum_23 rfl ?_
          refine jx_bipush (v := 43) dX11_readSum_24 (by decide) ?_
          refine jx_Vi (as := [.int _]) dX11_readSum_26 mlX11_258 okX11_isMarked viX11_isMarked rfl rfl rfl rfl rfl (by omega) (Nat.le_of_ble_eq_true rfl) (tX11_isMarked (c := 43) hW hR hP.1 (by omega)) ?_
          refine jx_ifB_eq 37 dX11_readSum_29 (by decide) (fun h29 => ?_) (fun h29 => ?_)
          · refine jx_bipush (v := -21) dX11_readSum_37 (by decide) ?_
            refine jx_istore_n dX11_readSum_39 rfl (by decide) ?_
            exact jx_ls (by exact ⟨rfl, rfl, rfl, trivial⟩) (key40 _ (by unfold cMk mkX; first | rw [if_pos h29] | rw [if_neg (by rw [h29]; decide), if_pos h20] | exact absurd (h11.symm.trans h29) (by decide)))
          · refine jx_bipush (v := -20) dX11_readSum_32 (by decide) ?_
            refine jx_goto 39 dX11_readSum_34 (by decide) ?_
            refine jx_istore_n dX11_readSum_39 rfl (by decide) ?_
            exact jx_ls (by exact ⟨rfl, rfl, rfl, trivial⟩) (key40 _ (by unfold cMk mkX; first | rw [if_pos h29] | rw [if_neg (by rw [h29]; decide), if_pos h20] | exact absurd (h11.symm.trans h29) (by decide)))
  refine jx_aload_n dX11_readSum_0 rfl ?_
  refine jx_iload_n dX11_readSum_1 rfl ?_
  refine jx_VRv (as := [.int _]) dX11_readSum_2 mlX11_290 okX11_readProduct viX11_readProduct rfl rfl rfl rfl rfl (by omega) (Nat.le_of_ble_eq_true rfl) (hF I y0 hRE0) (fun t2 hq2 => ?_)
  obtain ⟨J0, rfl, he0, hR0⟩ := hq2
  have hz := hR0.sz
  exact jx_ls (by exact ⟨rfl, rfl, trivial⟩) (key 701 J0 _ hR0 he0 (by omega) hres0)
set_option maxHeartbeats 1000000 in
set_option maxRecDepth 20000 in
theorem tX11_readAnd (hW : jWok w l) (hR : RS R) {sz d a : Nat} {tp : Nat → Nat} {F : ((Nat × Nat × Nat) × List Int32 → (Nat × Nat × Nat) × List Int32)} (hd : 6 ≤ d) (hF : CE w l n L R sz tp mX11_readNot d a F) (hm : moE sz F) : CE w l n L R sz tp mX11_readAnd (d + 1) a (fun y => lpL tp sz (cWd tp sz [97, 110, 100] (-26)) F 701 (F y)) := by
  intro I y0 hRE0
  refine jRv_of hW (by decide) rfl (Nat.le_of_ble_eq_true rfl) ?_
  show jWP w l mX11_readAnd (d + 1) 0 0 (fun v t => v = none ∧ ∃ J, t = (n, shE, J, L, R) ∧ eqE I J ∧ RE J sz tp (lpL tp sz (cWd tp sz [97, 110, 100] (-26)) F 701 (F y0))) (fun _ _ => False) 0 _ [] _
  generalize hres0 : lpL tp sz (cWd tp sz [97, 110, 100] (-26)) F 701 (F y0) = res
  have key : ∀ (g : Nat) (I1 : Nat → Nat → Int32) (y : (Nat × Nat × Nat) × List Int32), RE I1 sz tp y → eqE I I1 → sz - y.1.1 < g → lpL tp sz (cWd tp sz [97, 110, 100] (-26)) F g y = res → jWP w l mX11_readAnd (d + 1) 0 0 (fun v t => v = none ∧ ∃ J, t = (n, shE, J, L, R) ∧ eqE I J ∧ RE J sz tp res) (fun _ _ => False) 5 [(0, .ref 1069), (1, .int (nI a))] [] (n, shE, I1, L, R) := by
    intro g
    induction g with
    | zero => intro I1 y _ _ h; exact absurd h (by omega)
    | succ g ih =>
      rintro I1 ⟨⟨b, bd, bp⟩, acc⟩ hRE he0 hg hres
      obtain ⟨hbs, hs7, hb5, hbd⟩ := hRE.sz
      have hP : P3 I1 sz tp (b, bd, bp) := hRE.1
      have hlb : acc.length < b := hRE.2.2.2
      have hbz : b ≤ sz := hbs
      have hnl := nxt_le (tp := tp) hbz
      have hg : sz - b < g + 1 := hg
      refine jx_aload_n dX11_readAnd_5 rfl ?_
      refine jx_ldcSW 58 dX11_readAnd_6 rfl rfl rfl (by decide) ?_
      refine jx_Vi (as := [.ref _]) dX11_readAnd_9 mlX11_254 okX11_is viX11_is rfl rfl rfl rfl rfl (by omega) (Nat.le_of_ble_eq_true rfl) (tX11_is hW hR hP.1 okAnd) ?_
      refine jx_ifB_eq 33 dX11_readAnd_12 (by decide) (fun h12 => ?_) (fun h12 => ?_)
      · refine jx_vret dX11_readAnd_33 rfl ?_
        exact ⟨rfl, _, rfl, he0, by rw [← hres, lpL_n (y := ((b, bd, bp), acc)) (by unfold cWd isX; rw [if_neg (by rw [h12]; decide)])]; exact hRE⟩
      · have hc : (cWd tp sz [97, 110, 100] (-26)) (b, bd, bp) = some (-26) := by unfold cWd isX; rw [if_pos h12]
        have hck := okWd _ _ hc
        refine jx_aload_n dX11_readAnd_15 rfl ?_
        refine jx_VRv (as := []) dX11_readAnd_16 mlX11_265 okX11_stepOn viX11_stepOn rfl rfl rfl rfl rfl (by omega) (Nat.le_of_ble_eq_true rfl) (tX11_stepOn hW hR hP.1.1 hP.1.2.1.1 (tEnd_le hP.1.2.2.1).2) (fun t16 hq16 => ?_)
        obtain ⟨J1, rfl, he1, hts⟩ := hq16
        have hP1 := P3_step hP he1 hts
        have hgt : b < nxt tp sz b := nxt_lt hbz hck.2
        have hR1 : RE J1 sz tp (stX tp sz (b, bd, bp), acc) := RE_n hRE (eqT_n he1) hP1 (by show acc.length < nxt tp sz b; omega)
        refine jx_aload_n dX11_readAnd_19 rfl ?_
        refine jx_iload_n dX11_readAnd_20 rfl ?_
        refine jx_VRv (as := [.int _]) dX11_readAnd_21 mlX11_298 okX11_readNot viX11_readNot rfl rfl rfl rfl rfl (by omega) (Nat.le_of_ble_eq_true rfl) (hF J1 (stX tp sz (b, bd, bp), acc) hR1) (fun t21 hq21 => ?_)
        obtain ⟨J2, rfl, he2, hR2⟩ := hq21
        obtain ⟨-, m1, m2, m3⟩ := hm (stX tp sz (b, bd, bp), acc) hnl.2
        have m1 : nxt tp sz b ≤ (F (stX tp sz (b, bd, bp), acc)).1.1 := m1
        have m3 : (F (stX tp sz (b, bd, bp), acc)).2.length + nxt tp sz b ≤ acc.length + (F (stX tp sz (b, bd, bp), acc)).1.1 := m3
        refine jx_aload_n dX11_readAnd_24 rfl ?_
        refine jx_bipush (v := -26) dX11_readAnd_25 (by decide) ?_
        refine jx_Vv (as := [.int _]) dX11_readAnd_27 mlX11_274 okX11_lay viX11_lay rfl rfl rfl rfl rfl (by omega) (Nat.le_of_ble_eq_true rfl) (tX11_lay hW hR (bd := (F (stX tp sz (b, bd, bp), acc)).1.2.1) (len := (F (stX tp sz (b, bd, bp), acc)).2.length) hR2.sz.2.2.2 hR2.sz.2.2.1 hR2.2.1 (by omega) _) ?_
        refine jx_goto 5 dX11_readAnd_30 (by decide) ?_
        exact jx_ls (by exact ⟨rfl, rfl, trivial⟩) (ih _ _ (RE_lay hR2 _ (fun _ => by omega)) (eqE_t he0 (eqE_t (eqN_E (eqT_n he1)) (eqE_t he2 (layH_e _ _ _ _)))) (by rw [lyY_1]; omega) (by rw [← hres]; exact (lpL_s (y := ((b, bd, bp), acc)) hc).symm))
  refine jx_aload_n dX11_readAnd_0 rfl ?_
  refine jx_iload_n dX11_readAnd_1 rfl ?_
  refine jx_VRv (as := [.int _]) dX11_readAnd_2 mlX11_298 okX11_readNot viX11_readNot rfl rfl rfl rfl rfl (by omega) (Nat.le_of_ble_eq_true rfl) (hF I y0 hRE0) (fun t2 hq2 => ?_)
  obtain ⟨J0, rfl, he0, hR0⟩ := hq2
  have hz := hR0.sz
  exact jx_ls (by exact ⟨rfl, rfl, trivial⟩) (key 701 J0 _ hR0 he0 (by omega) hres0)
set_option maxHeartbeats 1000000 in
set_option maxRecDepth 20000 in
theorem tX11_readExpression (hW : jWok w l) (hR : RS R) {sz d a : Nat} {tp : Nat → Nat} {F E : ((Nat × Nat × Nat) × List Int32 → (Nat × Nat × Nat) × List Int32)} (hd : 8 ≤ d) (ha : a ≤ 6) (hF : a < 6 → CE w l n L R sz tp mX11_readAnd d a F) (hm : moE sz F) (hE : ∀ y, E y = if y.1.2.1 ≠ 0 then y else if mayE tp sz y.1 = true then (if a = 6 then (pWr 2 y.1, y.2) else lpL tp sz (cWd tp sz [111, 114] (-27)) F 701 (F y)) else (pWr 1 y.1, y.2)) : CE w l n L R sz tp mX11_readExpression (d + 1) a E := by
  intro I y0 hRE0
  refine jRv_of hW (by decide) rfl (Nat.le_of_ble_eq_true rfl) ?_
  have keyB : ∀ (I1 : Nat → Nat → Int32) (y : (Nat × Nat × Nat) × List Int32), RE I1 sz tp y → eqE I I1 → y.1.2.1 ≠ 0 → E y0 = y → jWP w l mX11_readExpression (d + 1) 0 0 (fun v t => v = none ∧ ∃ J, t = (n, shE, J, L, R) ∧ eqE I J ∧ RE J sz tp (E y0)) (fun _ _ => False) 62 [(0, .ref 1069), (1, .int (nI a))] [] (n, shE, I1, L, R) := by
    rintro I1 ⟨⟨b, bd, bp⟩, acc⟩ hRE he0 hb hy
    have hP : P3 I1 sz tp (b, bd, bp) := hRE.1
    refine jx_aload_n dX11_readExpression_62 rfl ?_
    refine jx_iload_n dX11_readExpression_63 rfl ?_
    refine jx_Vv (as := [.int _]) dX11_readExpression_64 mlX11_303 okX11_readAnd viX11_readAnd rfl rfl rfl rfl rfl (by omega) (Nat.le_of_ble_eq_true rfl) (tX11_readAnd_b hW hR hP.1 hb _) ?_
    refine jx_aload_n dX11_readExpression_67 rfl ?_
    refine jx_ldcSW 59 dX11_readExpression_68 rfl rfl rfl (by decide) ?_
    refine jx_Vi (as := [.ref _]) dX11_readExpression_71 mlX11_254 okX11_is viX11_is rfl rfl rfl rfl rfl (by omega) (Nat.le_of_ble_eq_true rfl) ((isW_b (tp := tp) (sz := sz) (b := b) (cs := [111, 114]) hb) ▸ tX11_is hW hR hP.1 okOr) ?_
    refine jx_ifB_eq 95 dX11_readExpression_74 (by decide) (fun h74 => ?_) (fun h74 => by cases h74)
    refine jx_vret dX11_readExpression_95 rfl ?_
    exact ⟨rfl, _, rfl, he0, by rw [hy]; exact hRE⟩
  have keyG : a < 6 → y0.1.2.1 = 0 → mayE tp sz y0.1 = true → jWP w l mX11_readExpression (d + 1) 0 0 (fun v t => v = none ∧ ∃ J, t = (n, shE, J, L, R) ∧ eqE I J ∧ RE J sz tp (E y0)) (fun _ _ => False) 62 [(0, .ref 1069), (1, .int (nI a))] [] (n, shE, I, L, R) := by
    intro ha6 hy0 hmay
    have hF := hF ha6
    have hres0 : lpL tp sz (cWd tp sz [111, 114] (-27)) F 701 (F y0) = E y0 := by rw [hE y0, if_neg (fun q => q hy0), if_pos hmay, if_neg (by omega)]
    generalize E y0 = res at hres0 ⊢
    have key : ∀ (g : Nat) (I1 : Nat → Nat → Int32) (y : (Nat × Nat × Nat) × List Int32), RE I1 sz tp y → eqE I I1 → sz - y.1.1 < g → lpL tp sz (cWd tp sz [111, 114] (-27)) F g y = res → jWP w l mX11_readExpression (d + 1) 0 0 (fun v t => v = none ∧ ∃ J, t = (n, shE, J, L, R) ∧ eqE I J ∧ RE J sz tp res) (fun _ _ => False) 67 [(0, .ref 1069), (1, .int (nI a))] [] (n, shE, I1, L, R) := by
      intro g
      induction g with
      | zero => intro I1 y _ _ h; exact absurd h (by omega)
      | succ g ih =>
        rintro I1 ⟨⟨b, bd, bp⟩, acc⟩ hRE he0 hg hres
        obtain ⟨hbs, hs7, hb5, hbd⟩ := hRE.sz
        have hP : P3 I1 sz tp (b, bd, bp) := hRE.1
        have hlb : acc.length < b := hRE.2.2.2
        have hbz : b ≤ sz := hbs
        have hnl := nxt_le (tp := tp) hbz
        have hg : sz - b < g + 1 := hg
        refine jx_aload_n dX11_readExpression_67 rfl ?_
        refine jx_ldcSW 59 dX11_readExpression_68 rfl rfl rfl (by decide) ?_
        refine jx_Vi (as := [.ref _]) dX11_readExpression_71 mlX11_254 okX11_is viX11_is rfl rfl rfl rfl rfl (by omega) (Nat.le_of_ble_eq_true rfl) (tX11_is hW hR hP.1 okOr) ?_
        refine jx_ifB_eq 95 dX11_readExpression_74 (by decide) (fun h74 => ?_) (fun h74 => ?_)
        · refine jx_vret dX11_readExpression_95 rfl ?_
          exact ⟨rfl, _, rfl, he0, by rw [← hres, lpL_n (y := ((b, bd, bp), acc)) (by unfold cWd isX; rw [if_neg (by rw [h74]; decide)])]; exact hRE⟩
        · have hc : (cWd tp sz [111, 114] (-27)) (b, bd, bp) = some (-27) := by unfold cWd isX; rw [if_pos h74]
          have hck := okWd _ _ hc
          refine jx_aload_n dX11_readExpression_77 rfl ?_
          refine jx_VRv (as := []) dX11_readExpression_78 mlX11_265 okX11_stepOn viX11_stepOn rfl rfl rfl rfl rfl (by omega) (Nat.le_of_ble_eq_true rfl) (tX11_stepOn hW hR hP.1.1 hP.1.2.1.1 (tEnd_le hP.1.2.2.1).2) (fun t78 hq78 => ?_)
          obtain ⟨J1, rfl, he1, hts⟩ := hq78
          have hP1 := P3_step hP he1 hts
          have hgt : b < nxt tp sz b := nxt_lt hbz hck.2
          have hR1 : RE J1 sz tp (stX tp sz (b, bd, bp), acc) := RE_n hRE (eqT_n he1) hP1 (by show acc.length < nxt tp sz b; omega)
          refine jx_aload_n dX11_readExpression_81 rfl ?_
          refine jx_iload_n dX11_readExpression_82 rfl ?_
          refine jx_VRv (as := [.int _]) dX11_readExpression_83 mlX11_303 okX11_readAnd viX11_readAnd rfl rfl rfl rfl rfl (by omega) (Nat.le_of_ble_eq_true rfl) (hF J1 (stX tp sz (b, bd, bp), acc) hR1) (fun t83 hq83 => ?_)
          obtain ⟨J2, rfl, he2, hR2⟩ := hq83
          obtain ⟨-, m1, m2, m3⟩ := hm (stX tp sz (b, bd, bp), acc) hnl.2
          have m1 : nxt tp sz b ≤ (F (stX tp sz (b, bd, bp), acc)).1.1 := m1
          have m3 : (F (stX tp sz (b, bd, bp), acc)).2.length + nxt tp sz b ≤ acc.length + (F (stX tp sz (b, bd, bp), acc)).1.1 := m3
          refine jx_aload_n dX11_readExpression_86 rfl ?_
          refine jx_bipush (v := -27) dX11_readExpression_87 (by decide) ?_
          refine jx_Vv (as := [.int _]) dX11_readExpression_89 mlX11_274 okX11_lay viX11_lay rfl rfl rfl rfl rfl (by omega) (Nat.le_of_ble_eq_true rfl) (tX11_lay hW hR (bd := (F (stX tp sz (b, bd, bp), acc)).1.2.1) (len := (F (stX tp sz (b, bd, bp), acc)).2.length) hR2.sz.2.2.2 hR2.sz.2.2.1 hR2.2.1 (by omega) _) ?_
          refine jx_goto 67 dX11_readExpression_92 (by decide) ?_
          exact jx_ls (by exact ⟨rfl, rfl, trivial⟩) (ih _ _ (RE_lay hR2 _ (fun _ => by omega)) (eqE_t he0 (eqE_t (eqN_E (eqT_n he1)) (eqE_t he2 (layH_e _ _ _ _)))) (by rw [lyY_1]; omega) (by rw [← hres]; exact (lpL_s (y := ((b, bd, bp), acc)) hc).symm))
    refine jx_aload_n dX11_readExpression_62 rfl ?_
    refine jx_iload_n dX11_readExpression_63 rfl ?_
    refine jx_VRv (as := [.int _]) dX11_readExpression_64 mlX11_303 okX11_readAnd viX11_readAnd rfl rfl rfl rfl rfl (by omega) (Nat.le_of_ble_eq_true rfl) (hF I y0 hRE0) (fun t64 hq64 => ?_)
    obtain ⟨J0, rfl, he0, hR0⟩ := hq64
    have hz := hR0.sz
    exact jx_ls (by exact ⟨rfl, rfl, trivial⟩) (key 701 J0 _ hR0 he0 (by omega) hres0)
  obtain ⟨⟨b, bd, bp⟩, acc⟩ := y0
  have hRE := hRE0
  have hP : P3 I sz tp (b, bd, bp) := hRE.1
  have hkl := tKd_le tp sz b
  have hlb : acc.length < b := hRE.2.2.2
  have hb5 : bd ≤ 5 := hP.1.2.2.2.2
  have hbd : I 1069 24 = nI bd := hP.1.2.2.2.1
  refine jx_aload_n dX11_readExpression_0 rfl ?_
  refine jx_getIE dX11_readExpression_1 flX11_240 rfl rfl (hbd) ?_
  refine jx_ifN_eq (a := bd) 8 dX11_readExpression_4 (by decide) (by omega) (fun h4 => ?_) (fun h4 => ?_)
  · subst h4
    refine jx_aload_n dX11_readExpression_8 rfl ?_
    refine jx_getIE dX11_readExpression_9 flX11_214 rfl rfl (hP.1.2.1.2.1) ?_
    refine jx_iconst (v := 2) dX11_readExpression_12 (by decide) ?_
    refine jx_icmpN_eq (a := (tKd tp sz b)) (b := 2) 33 dX11_readExpression_13 (by decide) (by omega) (by omega) (fun h13 => ?_) (fun h13 => ?_)
    · refine jx_iconst (v := 1) dX11_readExpression_33 (by decide) ?_
      refine jx_goto 38 dX11_readExpression_34 (by decide) ?_
      refine jx_istore_n dX11_readExpression_38 rfl (by decide) ?_
      have hmay : mayE tp sz (b, 0, bp) = true := by
        unfold mayE mkX
        first | (rw [decide_eq_true h13]; rfl) | (rw [decide_eq_true h21, Bool.or_true]; rfl) | (rw [show mkQ tp sz (b, 0, bp).1 (b, 0, bp).2.1 40 = true from h30, Bool.or_true])
      refine jx_iload_n dX11_readExpression_39 rfl ?_
      refine jx_ifN_ne (a := 1) 51 dX11_readExpression_40 (by decide) (by decide) (fun h40 => ?_) (fun h40 => absurd h40 (by decide))
      refine jx_iload_n dX11_readExpression_51 rfl ?_
      refine jx_bipush (v := 6) dX11_readExpression_52 (by decide) ?_
      refine jx_icmpN_ne (a := a) (b := 6) 62 dX11_readExpression_54 (by decide) (by omega) (by omega) (fun h54 => ?_) (fun h54 => ?_)
      · first | exact jx_ls (by exact ⟨rfl, rfl, trivial⟩) (keyG (by omega) rfl hmay) | exact jx_ls (by exact ⟨rfl, rfl, trivial⟩) (keyB (wrg I 0 2) ((b, 2, b), acc) (RE_n hRE (wrg_n 0 2) (P3_wr hP (k := 2) (by omega) (by omega)) hlb) (eqN_E (wrg_n 0 2)) (by show 2 ≠ 0; decide) (by rw [hE]; rw [if_neg (fun q => q rfl), if_pos hmay, if_pos h54]; rfl))
      · refine jx_aload_n dX11_readExpression_57 rfl ?_
        refine jx_iconst (v := 2) dX11_readExpression_58 (by decide) ?_
        refine jx_Vv (as := [.int _]) dX11_readExpression_59 mlX11_261 okX11_wrong viX11_wrong rfl rfl rfl rfl rfl (by omega) (Nat.le_of_ble_eq_true rfl) (tX11_wrongP (k := 2) hW hP.1) ?_
        first | exact jx_ls (by exact ⟨rfl, rfl, trivial⟩) (keyG (by omega) rfl hmay) | exact jx_ls (by exact ⟨rfl, rfl, trivial⟩) (keyB (wrg I 0 2) ((b, 2, b), acc) (RE_n hRE (wrg_n 0 2) (P3_wr hP (k := 2) (by omega) (by omega)) hlb) (eqN_E (wrg_n 0 2)) (by show 2 ≠ 0; decide) (by rw [hE]; rw [if_neg (fun q => q rfl), if_pos hmay, if_pos h54]; rfl))
    · refine jx_aload_n dX11_readExpression_16 rfl ?_
      refine jx_getIE dX11_readExpression_17 flX11_214 rfl rfl (hP.1.2.1.2.1) ?_
      refine jx_iconst (v := 1) dX11_readExpression_20 (by decide) ?_
      refine jx_icmpN_eq (a := (tKd tp sz b)) (b := 1) 33 dX11_readExpression_21 (by decide) (by omega) (by omega) (fun h21 => ?_) (fun h21 => ?_)
      · refine jx_iconst (v := 1) dX11_readExpression_33 (by decide) ?_
        refine jx_goto 38 dX11_readExpression_34 (by decide) ?_
        refine jx_istore_n dX11_readExpression_38 rfl (by decide) ?_
        have hmay : mayE tp sz (b, 0, bp) = true := by
          unfold mayE mkX
          first | (rw [decide_eq_true h13]; rfl) | (rw [decide_eq_true h21, Bool.or_true]; rfl) | (rw [show mkQ tp sz (b, 0, bp).1 (b, 0, bp).2.1 40 = true from h30, Bool.or_true])
        refine jx_iload_n dX11_readExpression_39 rfl ?_
        refine jx_ifN_ne (a := 1) 51 dX11_readExpression_40 (by decide) (by decide) (fun h40 => ?_) (fun h40 => absurd h40 (by decide))
        refine jx_iload_n dX11_readExpression_51 rfl ?_
        refine jx_bipush (v := 6) dX11_readExpression_52 (by decide) ?_
        refine jx_icmpN_ne (a := a) (b := 6) 62 dX11_readExpression_54 (by decide) (by omega) (by omega) (fun h54 => ?_) (fun h54 => ?_)
        · first | exact jx_ls (by exact ⟨rfl, rfl, trivial⟩) (keyG (by omega) rfl hmay) | exact jx_ls (by exact ⟨rfl, rfl, trivial⟩) (keyB (wrg I 0 2) ((b, 2, b), acc) (RE_n hRE (wrg_n 0 2) (P3_wr hP (k := 2) (by omega) (by omega)) hlb) (eqN_E (wrg_n 0 2)) (by show 2 ≠ 0; decide) (by rw [hE]; rw [if_neg (fun q => q rfl), if_pos hmay, if_pos h54]; rfl))
        · refine jx_aload_n dX11_readExpression_57 rfl ?_
          refine jx_iconst (v := 2) dX11_readExpression_58 (by decide) ?_
          refine jx_Vv (as := [.int _]) dX11_readExpression_59 mlX11_261 okX11_wrong viX11_wrong rfl rfl rfl rfl rfl (by omega) (Nat.le_of_ble_eq_true rfl) (tX11_wrongP (k := 2) hW hP.1) ?_
          first | exact jx_ls (by exact ⟨rfl, rfl, trivial⟩) (keyG (by omega) rfl hmay) | exact jx_ls (by exact ⟨rfl, rfl, trivial⟩) (keyB (wrg I 0 2) ((b, 2, b), acc) (RE_n hRE (wrg_n 0 2) (P3_wr hP (k := 2) (by omega) (by omega)) hlb) (eqN_E (wrg_n 0 2)) (by show 2 ≠ 0; decide) (by rw [hE]; rw [if_neg (fun q => q rfl), if_pos hmay, if_pos h54]; rfl))
      · refine jx_aload_n dX11_readExpression_24 rfl ?_
        refine jx_bipush (v := 40) dX11_readExpression_25 (by decide) ?_
        refine jx_Vi (as := [.int _]) dX11_readExpression_27 mlX11_258 okX11_isMarked viX11_isMarked rfl rfl rfl rfl rfl (by omega) (Nat.le_of_ble_eq_true rfl) (tX11_isMarked (c := 40) hW hR hP.1 (by omega)) ?_
        refine jx_ifB_eq 37 dX11_readExpression_30 (by decide) (fun h30 => ?_) (fun h30 => ?_)
        · refine jx_iconst (v := 0) dX11_readExpression_37 (by decide) ?_
          refine jx_istore_n dX11_readExpression_38 rfl (by decide) ?_
          have hmay : ¬ mayE tp sz (b, 0, bp) = true := by
            unfold mayE mkX
            rw [decide_eq_false h13, decide_eq_false h21, show mkQ tp sz (b, 0, bp).1 (b, 0, bp).2.1 40 = false from h30]; decide
          refine jx_iload_n dX11_readExpression_39 rfl ?_
          refine jx_ifN_ne (a := 0) 51 dX11_readExpression_40 (by decide) (by decide) (fun h40 => absurd h40 (by decide)) (fun h40 => ?_)
          refine jx_aload_n dX11_readExpression_43 rfl ?_
          refine jx_iconst (v := 1) dX11_readExpression_44 (by decide) ?_
          refine jx_Vv (as := [.int _]) dX11_readExpression_45 mlX11_261 okX11_wrong viX11_wrong rfl rfl rfl rfl rfl (by omega) (Nat.le_of_ble_eq_true rfl) (tX11_wrongP (k := 1) hW hP.1) ?_
          refine jx_goto 62 dX11_readExpression_48 (by decide) ?_
          exact jx_ls (by exact ⟨rfl, rfl, trivial⟩) (keyB (wrg I 0 1) ((b, 1, b), acc) (RE_n hRE (wrg_n 0 1) (P3_wr hP (k := 1) (by omega) (by omega)) hlb) (eqN_E (wrg_n 0 1)) (by show 1 ≠ 0; decide) (by rw [hE]; rw [if_neg (fun q => q rfl), if_neg hmay]; rfl))
        · refine jx_iconst (v := 1) dX11_readExpression_33 (by decide) ?_
          refine jx_goto 38 dX11_readExpression_34 (by decide) ?_
          refine jx_istore_n dX11_readExpression_38 rfl (by decide) ?_
          have hmay : mayE tp sz (b, 0, bp) = true := by
            unfold mayE mkX
            first | (rw [decide_eq_true h13]; rfl) | (rw [decide_eq_true h21, Bool.or_true]; rfl) | (rw [show mkQ tp sz (b, 0, bp).1 (b, 0, bp).2.1 40 = true from h30, Bool.or_true])
          refine jx_iload_n dX11_readExpression_39 rfl ?_
          refine jx_ifN_ne (a := 1) 51 dX11_readExpression_40 (by decide) (by decide) (fun h40 => ?_) (fun h40 => absurd h40 (by decide))
          refine jx_iload_n dX11_readExpression_51 rfl ?_
          refine jx_bipush (v := 6) dX11_readExpression_52 (by decide) ?_
          refine jx_icmpN_ne (a := a) (b := 6) 62 dX11_readExpression_54 (by decide) (by omega) (by omega) (fun h54 => ?_) (fun h54 => ?_)
          · first | exact jx_ls (by exact ⟨rfl, rfl, trivial⟩) (keyG (by omega) rfl hmay) | exact jx_ls (by exact ⟨rfl, rfl, trivial⟩) (keyB (wrg I 0 2) ((b, 2, b), acc) (RE_n hRE (wrg_n 0 2) (P3_wr hP (k := 2) (by omega) (by omega)) hlb) (eqN_E (wrg_n 0 2)) (by show 2 ≠ 0; decide) (by rw [hE]; rw [if_neg (fun q => q rfl), if_pos hmay, if_pos h54]; rfl))
          · refine jx_aload_n dX11_readExpression_57 rfl ?_
            refine jx_iconst (v := 2) dX11_readExpression_58 (by decide) ?_
            refine jx_Vv (as := [.int _]) dX11_readExpression_59 mlX11_261 okX11_wrong viX11_wrong rfl rfl rfl rfl rfl (by omega) (Nat.le_of_ble_eq_true rfl) (tX11_wrongP (k := 2) hW hP.1) ?_
            first | exact jx_ls (by exact ⟨rfl, rfl, trivial⟩) (keyG (by omega) rfl hmay) | exact jx_ls (by exact ⟨rfl, rfl, trivial⟩) (keyB (wrg I 0 2) ((b, 2, b), acc) (RE_n hRE (wrg_n 0 2) (P3_wr hP (k := 2) (by omega) (by omega)) hlb) (eqN_E (wrg_n 0 2)) (by show 2 ≠ 0; decide) (by rw [hE]; rw [if_neg (fun q => q rfl), if_pos hmay, if_pos h54]; rfl))
  · refine jx_vret dX11_readExpression_7 rfl ?_
    exact ⟨rfl, _, rfl, eqE_r _, by rw [hE, if_pos (show bd ≠ 0 from h4)]; exact hRE⟩
end RC1
