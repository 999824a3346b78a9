/-! THE CLASS: the rule reader, joints and all -/
section CZ11
variable {w : jWD} {l : Launch} {n : Nat} {I J K : Nat → Nat → Int32} {L M : Nat → Nat → Int64} {R : Nat → Nat → Option Nat} {sz : Nat} {tp : Nat → Nat} {x : Nat × Nat × Nat} {h : Nat} {code wt : List Int32} {d nt cp : Nat} {eb nm pd : Bool} {s : Rst}
theorem mkX_c (h0 : x.2.1 = 0) {c : Nat} (hc : 40 ≤ c) : kdC tp sz x.1 = c ↔ mkX tp sz x c = true := by
  rw [kdC_mk hc]
  unfold mkX
  rw [h0]
theorem jnt_w (h : ∀ c, c = 43 ∨ c = 45 ∨ c = 42 ∨ c = 47 ∨ c = 60 ∨ c = 61 ∨ c = 41 → mkX tp sz x c = false) : jnt tp sz x = if isX tp sz x [111, 114] = true then -5 else if isX tp sz x [97, 110, 100] = true then -6 else 0 := by
  unfold jnt
  rw [h 43 (by simp), h 45 (by simp), h 42 (by simp), h 47 (by simp), h 60 (by simp), h 61 (by simp), h 41 (by simp)]
  rfl
theorem ts_lo {k : Nat} (hk : k < 256) (h : ∀ c, 41 ≤ c → c ≤ 61 → k ≠ c) : (nI k).toInt < 41 ∨ 61 < (nI k).toInt := by
  rw [nI_toInt (by omega)]
  by_cases a : k < 41
  · omega
  · by_cases b : 61 < k
    · omega
    · exact absurd rfl (h k (by omega) (by omega))
theorem mxw : ∀ m, m ≤ 96 → (if (0 : Int32) < nI m - 1 then nI m - 1 else 0) = nI (m - 1) := by decide +kernel
theorem RW_tl (hA : RW I wt) : RW (upI I 1006 2 (nI (wt.length - 1))) wt.tail := by
  cases wt with
  | nil => exact ⟨upI_s, Nat.zero_le _, fun k hk => absurd hk (Nat.not_lt_zero k)⟩
  | cons s ws => exact (RW_pop hA).2.2
theorem rlC_le (r : Nat) : ∀ (ws cs : List Int32), (rlC r cs ws).2.length ≤ ws.length
  | [], cs => Nat.le_refl _
  | s :: ws, cs => by
    rw [rlC]
    split
    · have := rlC_le r ws (adC cs s); rw [List.length_cons]; omega
    · exact Nat.le_refl _

set_option maxHeartbeats 1000000 in
set_option maxRecDepth 20000 in
theorem tX7_jointOf (hW : jWok w l) (hR : RS R) (hx : C3 I sz tp x) (h0 : x.2.1 = 0) : jCD w l mX7_jointOf 6 [.ref 1006] (n, shE, I, L, R) (some (.int (jnt tp sz x))) (n, shE, I, L, R) := by
  refine jCD_of hW (by decide) rfl (Nat.le_of_ble_eq_true rfl) ?_
  have hk : I 1005 4 = nI (kdC tp sz x.1) := hx.2.1.2.2.1
  have hkl := kdC_lt hx.1 x.1
  have hji := jnt_i (tp := tp) (sz := sz) x
  have key : (∀ c, c = 43 ∨ c = 45 ∨ c = 42 ∨ c = 47 ∨ c = 60 ∨ c = 61 ∨ c = 41 → kdC tp sz x.1 ≠ c) → jWP w l mX7_jointOf 6 0 0 (fun v t => v = some (.int (jnt tp sz x)) ∧ t = (n, shE, I, L, R)) (fun _ _ => False) 125 [(0, .ref 1006)] [] (n, shE, I, L, R) := by
    intro hno
    have hj := jnt_w (tp := tp) (sz := sz) (x := x) (fun c hc => Bool.eq_false_iff.mpr (fun q => hno c hc ((mkX_c h0 (by omega)).mpr q)))
    rw [hj]
    refine jx_aload_n dX7_jointOf_125 rfl ?_
    refine jx_getR dX7_jointOf_126 flX7_15 rfl rfl (hR _ _ _ rfl) ?_
    refine jx_ldcS 22 dX7_jointOf_129 rfl rfl rfl (by decide) ?_
    refine jx_Vi (as := [.ref _]) dX7_jointOf_131 mlX7_83 okX9_isWord viX9_isWord rfl rfl rfl rfl rfl (by decide) (Nat.le_of_ble_eq_true rfl) (tX9_isWord_x hW hR hx h0 (i := 22) (cs := [111, 114]) ⟨by decide, ⟨_, rfl, rfl⟩, by decide, by decide⟩) ?_
    refine jx_ifB_eq 140 dX7_jointOf_134 (by decide) (fun h134 => ?_) (fun h134 => ?_)
    · refine jx_aload_n dX7_jointOf_140 rfl ?_
      refine jx_getR dX7_jointOf_141 flX7_15 rfl rfl (hR _ _ _ rfl) ?_
      refine jx_ldcS 23 dX7_jointOf_144 rfl rfl rfl (by decide) ?_
      refine jx_Vi (as := [.ref _]) dX7_jointOf_146 mlX7_83 okX9_isWord viX9_isWord rfl rfl rfl rfl rfl (by decide) (Nat.le_of_ble_eq_true rfl) (tX9_isWord_x hW hR hx h0 (i := 23) (cs := [97, 110, 100]) ⟨by decide, ⟨_, rfl, rfl⟩, by decide, by decide⟩) ?_
      refine jx_ifB_eq 157 dX7_jointOf_149 (by decide) (fun h149 => ?_) (fun h149 => ?_)
      · refine jx_iconst (v := 0) dX7_jointOf_157 (by decide) ?_
        refine jx_iret dX7_jointOf_158 rfl ?_
        first
        | exact ⟨by rw [if_neg (by rw [h134]; decide), if_pos h149], rfl⟩
        | exact ⟨by rw [if_neg (by rw [h134]; decide), if_neg (by rw [h149]; decide)], rfl⟩
      · refine jx_bipush (v := -6) dX7_jointOf_152 (by decide) ?_
        refine jx_goto 158 dX7_jointOf_154 (by decide) ?_
        refine jx_iret dX7_jointOf_158 rfl ?_
        first
        | exact ⟨by rw [if_neg (by rw [h134]; decide), if_pos h149], rfl⟩
        | exact ⟨by rw [if_neg (by rw [h134]; decide), if_neg (by rw [h149]; decide)], rfl⟩
    · refine jx_bipush (v := -5) dX7_jointOf_137 (by decide) ?_
      refine jx_iret dX7_jointOf_139 rfl ?_
      exact ⟨by rw [if_pos h134], rfl⟩
  refine jx_aload_n dX7_jointOf_0 rfl ?_
  refine jx_getR dX7_jointOf_1 flX7_15 rfl rfl (hR _ _ _ rfl) ?_
  refine jx_getIE dX7_jointOf_4 flX7_37 rfl rfl (hk) ?_
  by_cases e41 : kdC tp sz x.1 = 41
  · rw [e41]
    refine jx_tsIn 122 dX7_jointOf_7 (by decide) (by decide) rfl (by decide) ?_
    rw [hji.2.2.2.2.2.2.1.mpr ((mkX_c h0 (by decide)).mp e41)]
    refine jx_bipush (v := -14) dX7_jointOf_122 (by decide) ?_
    refine jx_iret dX7_jointOf_124 rfl ?_
    exact ⟨rfl, rfl⟩
  by_cases e42 : kdC tp sz x.1 = 42
  · rw [e42]
    refine jx_tsIn 110 dX7_jointOf_7 (by decide) (by decide) rfl (by decide) ?_
    rw [hji.2.2.1.mpr ((mkX_c h0 (by decide)).mp e42)]
    refine jx_bipush (v := -12) dX7_jointOf_110 (by decide) ?_
    refine jx_iret dX7_jointOf_112 rfl ?_
    exact ⟨rfl, rfl⟩
  by_cases e43 : kdC tp sz x.1 = 43
  · rw [e43]
    refine jx_tsIn 104 dX7_jointOf_7 (by decide) (by decide) rfl (by decide) ?_
    rw [hji.1.mpr ((mkX_c h0 (by decide)).mp e43)]
    refine jx_bipush (v := -10) dX7_jointOf_104 (by decide) ?_
    refine jx_iret dX7_jointOf_106 rfl ?_
    exact ⟨rfl, rfl⟩
  by_cases e44 : kdC tp sz x.1 = 44
  · rw [e44]
    refine jx_tsIn 125 dX7_jointOf_7 (by decide) (by decide) rfl (by decide) ?_
    exact jx_ls (by exact ⟨rfl, trivial⟩) (key (fun c hc => by omega))
  by_cases e45 : kdC tp sz x.1 = 45
  · rw [e45]
    refine jx_tsIn 107 dX7_jointOf_7 (by decide) (by decide) rfl (by decide) ?_
    rw [hji.2.1.mpr ((mkX_c h0 (by decide)).mp e45)]
    refine jx_bipush (v := -11) dX7_jointOf_107 (by decide) ?_
    refine jx_iret dX7_jointOf_109 rfl ?_
    exact ⟨rfl, rfl⟩
  by_cases e46 : kdC tp sz x.1 = 46
  · rw [e46]
    refine jx_tsIn 125 dX7_jointOf_7 (by decide) (by decide) rfl (by decide) ?_
    exact jx_ls (by exact ⟨rfl, trivial⟩) (key (fun c hc => by omega))
  by_cases e47 : kdC tp sz x.1 = 47
  · rw [e47]
    refine jx_tsIn 113 dX7_jointOf_7 (by decide) (by decide) rfl (by decide) ?_
    rw [hji.2.2.2.1.mpr ((mkX_c h0 (by decide)).mp e47)]
    refine jx_bipush (v := -13) dX7_jointOf_113 (by decide) ?_
    refine jx_iret dX7_jointOf_115 rfl ?_
    exact ⟨rfl, rfl⟩
  by_cases e48 : kdC tp sz x.1 = 48
  · rw [e48]
    refine jx_tsIn 125 dX7_jointOf_7 (by decide) (by decide) rfl (by decide) ?_
    exact jx_ls (by exact ⟨rfl, trivial⟩) (key (fun c hc => by omega))
  by_cases e49 : kdC tp sz x.1 = 49
  · rw [e49]
    refine jx_tsIn 125 dX7_jointOf_7 (by decide) (by decide) rfl (by decide) ?_
    exact jx_ls (by exact ⟨rfl, trivial⟩) (key (fun c hc => by omega))
  by_cases e50 : kdC tp sz x.1 = 50
  · rw [e50]
    refine jx_tsIn 125 dX7_jointOf_7 (by decide) (by decide) rfl (by decide) ?_
    exact jx_ls (by exact ⟨rfl, trivial⟩) (key (fun c hc => by omega))
  by_cases e51 : kdC tp sz x.1 = 51
  · rw [e51]
    refine jx_tsIn 125 dX7_jointOf_7 (by decide) (by decide) rfl (by decide) ?_
    exact jx_ls (by exact ⟨rfl, trivial⟩) (key (fun c hc => by omega))
  by_cases e52 : kdC tp sz x.1 = 52
  · rw [e52]
    refine jx_tsIn 125 dX7_jointOf_7 (by decide) (by decide) rfl (by decide) ?_
    exact jx_ls (by exact ⟨rfl, trivial⟩) (key (fun c hc => by omega))
  by_cases e53 : kdC tp sz x.1 = 53
  · rw [e53]
    refine jx_tsIn 125 dX7_jointOf_7 (by decide) (by decide) rfl (by decide) ?_
    exact jx_ls (by exact ⟨rfl, trivial⟩) (key (fun c hc => by omega))
  by_cases e54 : kdC tp sz x.1 = 54
  · rw [e54]
    refine jx_tsIn 125 dX7_jointOf_7 (by decide) (by decide) rfl (by decide) ?_
    exact jx_ls (by exact ⟨rfl, trivial⟩) (key (fun c hc => by omega))
  by_cases e55 : kdC tp sz x.1 = 55
  · rw [e55]
    refine jx_tsIn 125 dX7_jointOf_7 (by decide) (by decide) rfl (by decide) ?_
    exact jx_ls (by exact ⟨rfl, trivial⟩) (key (fun c hc => by omega))
  by_cases e56 : kdC tp sz x.1 = 56
  · rw [e56]
    refine jx_tsIn 125 dX7_jointOf_7 (by decide) (by decide) rfl (by decide) ?_
    exact jx_ls (by exact ⟨rfl, trivial⟩) (key (fun c hc => by omega))
  by_cases e57 : kdC tp sz x.1 = 57
  · rw [e57]
    refine jx_tsIn 125 dX7_jointOf_7 (by decide) (by decide) rfl (by decide) ?_
    exact jx_ls (by exact ⟨rfl, trivial⟩) (key (fun c hc => by omega))
  by_cases e58 : kdC tp sz x.1 = 58
  · rw [e58]
    refine jx_tsIn 125 dX7_jointOf_7 (by decide) (by decide) rfl (by decide) ?_
    exact jx_ls (by exact ⟨rfl, trivial⟩) (key (fun c hc => by omega))
  by_cases e59 : kdC tp sz x.1 = 59
  · rw [e59]
    refine jx_tsIn 125 dX7_jointOf_7 (by decide) (by decide) rfl (by decide) ?_
    exact jx_ls (by exact ⟨rfl, trivial⟩) (key (fun c hc => by omega))
  by_cases e60 : kdC tp sz x.1 = 60
  · rw [e60]
    refine jx_tsIn 116 dX7_jointOf_7 (by decide) (by decide) rfl (by decide) ?_
    rw [hji.2.2.2.2.1.mpr ((mkX_c h0 (by decide)).mp e60)]
    refine jx_bipush (v := -8) dX7_jointOf_116 (by decide) ?_
    refine jx_iret dX7_jointOf_118 rfl ?_
    exact ⟨rfl, rfl⟩
  by_cases e61 : kdC tp sz x.1 = 61
  · rw [e61]
    refine jx_tsIn 119 dX7_jointOf_7 (by decide) (by decide) rfl (by decide) ?_
    rw [hji.2.2.2.2.2.1.mpr ((mkX_c h0 (by decide)).mp e61)]
    refine jx_bipush (v := -9) dX7_jointOf_119 (by decide) ?_
    refine jx_iret dX7_jointOf_121 rfl ?_
    exact ⟨rfl, rfl⟩
  refine jx_tsOut 125 dX7_jointOf_7 (ts_lo hkl (fun c h1 h2 q => by omega)) (by decide) ?_
  exact jx_ls (by exact ⟨rfl, trivial⟩) (key (fun c hc => by omega))
def pCls (s : Rst) : Nat × Rst := if s.2.2.1 = 0 then (1, s) else (0, ((rlC 1 s.1 s.2.1).1, (rlC 1 s.1 s.2.1).2.tail, s.2.2.1 - 1, s.2.2.2.1, s.2.2.2.2.1, s.2.2.2.2.2.1, s.2.2.2.2.2.2.1, s.2.2.2.2.2.2.2))
set_option maxHeartbeats 1000000 in
set_option maxRecDepth 20000 in
theorem tX7_closeExpr (hW : jWok w l) (hR : RS R) (hh : h = 1008 ∨ h = 1024) (hRt : R 1006 3 = some (h + 5)) (hx : C3 I sz tp x) (h0 : x.2.1 = 0) (hS : RRc I h (code, wt, d, nt, cp, eb, nm, pd)) : jRi w l mX7_closeExpr 3 [.ref 1006] (n, shE, I, L, R) (StQ n R sz tp h I L x (pCls (code, wt, d, nt, cp, eb, nm, pd))) := by
  refine jRi_of hW (by decide) rfl (Nat.le_of_ble_eq_true rfl) ?_
  obtain ⟨F1, F2, F3, F4, F5, F6⟩ : RF I d nt cp eb nm pd := hS.2.2
  have F12 := F1.2.1
  have hl96 : (rlC 1 code wt).2.length ≤ 96 := Nat.le_trans (rlC_le 1 wt code) hS.2.1.2.1
  rcases hh with rfl | rfl
  all_goals
    refine jx_aload_n dX7_closeExpr_0 rfl ?_
    refine jx_getIE dX7_closeExpr_1 flX7_27 rfl rfl (F1.1) ?_
    refine jx_ifN_ne (a := d) 16 dX7_closeExpr_4 (by decide) (by omega) (fun h4 => ?_) (fun h4 => ?_)
    · refine jx_aload_n dX7_closeExpr_16 rfl ?_
      refine jx_iconst (v := 1) dX7_closeExpr_17 (by decide) ?_
      refine jx_VRv (as := [.int _]) dX7_closeExpr_18 mlX7_42 okX7_release viX7_release rfl rfl rfl rfl rfl (by decide) (Nat.le_of_ble_eq_true rfl) (tX7_release (r := 1) (code := code) (wt := wt) hW hR (by decide) hRt hS.1 hS.2.1 (by decide)) (fun t18 hq18 => ?_)
      obtain ⟨K2, rfl, a2, a3, f2⟩ := hq18
      refine jx_aload_n dX7_closeExpr_21 rfl ?_
      refine jx_iconst (v := 0) dX7_closeExpr_22 (by decide) ?_
      refine jx_aload_n dX7_closeExpr_23 rfl ?_
      refine jx_getIE dX7_closeExpr_24 flX7_23 rfl rfl (a3.1) ?_
      refine jx_iconst (v := 1) dX7_closeExpr_27 (by decide) ?_
      refine jx_isub dX7_closeExpr_28 ?_
      refine jx_Si (as := [.int _, .int _]) dX7_closeExpr_29 mlX7_128 okJ9_max_7cf53 stJ9_max_7cf53 rfl rfl (by decide) (Nat.le_of_ble_eq_true rfl) (tJ9_max_7cf53 hW _ _ _) ?_
      rw [mxw _ hl96]
      refine jx_putI dX7_closeExpr_32 flX7_23 rfl rfl (fun r h => by cases h; rfl) ?_
      refine jx_aload_n dX7_closeExpr_35 rfl ?_
      refine jx_dup dX7_closeExpr_36 rfl ?_
      refine jx_getIE dX7_closeExpr_37 flX7_27 rfl rfl ((upI_j (by decide)).trans ((f2 _ _ (by decide) (by decide) (by decide)).trans F1.1)) ?_
      refine jx_iconst (v := 1) dX7_closeExpr_40 (by decide) ?_
      refine jx_isubE (z := nI (d - 1)) dX7_closeExpr_41 (pk_sub (a := d) (b := 1) (by omega)) ?_
      refine jx_putI dX7_closeExpr_42 flX7_27 rfl rfl (fun r h => by cases h; rfl) ?_
      refine jx_iconst (v := 1) dX7_closeExpr_45 (by decide) ?_
      refine jx_zret dX7_closeExpr_46 rfl ?_ ?_
      · first | exact Or.inl rfl | exact Or.inr rfl | exact jb_or _
      have kk : eqK _ I (upI (upI K2 1006 2 (nI ((rlC 1 code wt).2.length - 1))) 1006 4 (nI (d - 1))) := eqK_u (eqK_u (fun b j a1 a2 a3 a4 => f2 b j a3 a4 (fun q => a1 q.1)))
      have g6 : ∀ j, 4 ≤ j → K2 1006 j = I 1006 j := fun j hj => f2 1006 j (by decide) (by decide) (fun q => by omega)
      exact ⟨_, rfl, StQ_g (u := ((rlC 1 code wt).1, (rlC 1 code wt).2.tail, d - 1, nt, cp, eb, nm, pd)) (by unfold pCls; exact if_neg h4) (eqK_Q kk) (hx.k (by decide) kk) ⟨a2.f (J := upI (upI K2 1006 2 (nI ((rlC 1 code wt).2.length - 1))) 1006 4 (nI (d - 1))) (fun _ => rfl) (fun _ => rfl), (RW_tl a3).f (J := upI (upI K2 1006 2 (nI ((rlC 1 code wt).2.length - 1))) 1006 4 (nI (d - 1))) rfl (fun _ => rfl), ⟨rfl, by show d - 1 ≤ 6; omega, fun q => by have q : d - 1 = 6 := q; omega⟩, ⟨(g6 5 (by decide)).trans F2.1, F2.2⟩, ⟨(g6 6 (by decide)).trans F3.1, F3.2⟩, (g6 7 (by decide)).trans F4, (g6 8 (by decide)).trans F5, (g6 9 (by decide)).trans F6⟩⟩
    · refine jx_aload_n dX7_closeExpr_7 rfl ?_
      refine jx_getR dX7_closeExpr_8 flX7_15 rfl rfl (hR _ _ _ rfl) ?_
      refine jx_iconst (v := 1) dX7_closeExpr_11 (by decide) ?_
      refine jx_VRi (as := [.int _]) dX7_closeExpr_12 mlX7_56 okX9_refuse viX9_refuse rfl rfl rfl rfl rfl (by decide) (Nat.le_of_ble_eq_true rfl) (tX9_refuse_x (k := 1) hW hR hx h0 (by decide)) (fun x12 t12 hq12 => ?_)
      obtain ⟨J2, rfl, fJ2, gJ2, rfl⟩ := hq12
      refine jx_zret dX7_closeExpr_15 rfl ?_ ?_
      · first | exact Or.inl rfl | exact Or.inr rfl | exact jb_or _
      exact ⟨_, rfl, StQ_b (k := 1) (u := (code, wt, d, nt, cp, eb, nm, pd)) (by unfold pCls; exact if_pos h4) (by decide) (eqR_Q fJ2) gJ2 (hS.c.r fJ2)⟩
end CZ11
