/-! THE CLASS: the rule reader, its small steps -/
section CZ8
variable {w : jWD} {l : Launch} {n : Nat} {I J : Nat → Nat → Int32} {L M : Nat → Nat → Int64} {R : Nat → Nat → Option Nat} {sz : Nat} {tp : Nat → Nat} {x : Nat × Nat × Nat} {h : Nat} {code wt : List Int32} {d nt cp : Nat} {eb nm pd : Bool}
/-- the rule as far as it is laid -/
def RA (J : Nat → Nat → Int32) (h : Nat) (code : List Int32) : Prop := J (h + 5) 2 = nI code.length ∧ code.length ≤ 700 ∧ ∀ k, k < code.length → J (h + 6) k = code.getD k 0
/-- what waits -/
def RW (J : Nat → Nat → Int32) (wt : List Int32) : Prop := J 1006 2 = nI wt.length ∧ wt.length ≤ 96 ∧ ∀ k, k < wt.length → J 1007 k = wt.reverse.getD k 0
/-- the rest -/
def RF (J : Nat → Nat → Int32) (d nt cp : Nat) (eb nm pd : Bool) : Prop := (J 1006 4 = nI d ∧ d ≤ 6 ∧ (d = 6 → eb = true ∧ pd = true)) ∧ (J 1006 5 = nI nt ∧ nt ≤ 6) ∧ (J 1006 6 = nI cp ∧ cp < 128) ∧ J 1006 7 = jb eb ∧ J 1006 8 = jb nm ∧ J 1006 9 = jb pd
def RRc (J : Nat → Nat → Int32) (h : Nat) (s : Rst) : Prop := RA J h s.1 ∧ RW J s.2.1 ∧ RF J s.2.2.1 s.2.2.2.1 s.2.2.2.2.1 s.2.2.2.2.2.1 s.2.2.2.2.2.2.1 s.2.2.2.2.2.2.2
theorem RA.f (hA : RA I h code) (h1 : ∀ j, J (h + 5) j = I (h + 5) j) (h2 : ∀ j, J (h + 6) j = I (h + 6) j) : RA J h code := ⟨by rw [h1]; exact hA.1, hA.2.1, fun k hk => by rw [h2]; exact hA.2.2 k hk⟩
theorem RW.f (hA : RW I wt) (h1 : J 1006 2 = I 1006 2) (h2 : ∀ j, J 1007 j = I 1007 j) : RW J wt := ⟨by rw [h1]; exact hA.1, hA.2.1, fun k hk => by rw [h2]; exact hA.2.2 k hk⟩
theorem RF.f (hA : RF I d nt cp eb nm pd) (h1 : ∀ j, 4 ≤ j → J 1006 j = I 1006 j) : RF J d nt cp eb nm pd := by
  obtain ⟨⟨a1, a2⟩, ⟨b1, b2⟩, ⟨c1, c2⟩, e, f, g⟩ := hA
  exact ⟨⟨(h1 4 (by decide)).trans a1, a2⟩, ⟨(h1 5 (by decide)).trans b1, b2⟩, ⟨(h1 6 (by decide)).trans c1, c2⟩, (h1 7 (by decide)).trans e, (h1 8 (by decide)).trans f, (h1 9 (by decide)).trans g⟩
theorem RA_add {v : Int32} (hh : h = 1008 ∨ h = 1024) (hA : RA I h code) (hl : code.length < 700) : RA (upI (upI I (h + 6) code.length v) (h + 5) 2 (nI (code.length + 1))) h (adC code v) := by
  unfold adC
  rw [if_pos hl]
  refine ⟨by rw [upI_s, List.length_append]; rfl, by rw [List.length_append]; show code.length + 1 ≤ 700; omega, fun k hk => ?_⟩
  rw [List.length_append] at hk
  have hk : k < code.length + 1 := hk
  rw [upI_nea (by omega)]
  by_cases z : k = code.length
  · rw [z, upI_s, getD_last]
  · rw [upI_j z, getD_app (by omega)]; exact hA.2.2 k (by omega)
theorem RW_add {v : Int32} (hA : RW I wt) (hl : wt.length < 96) : RW (upI (upI I 1007 wt.length v) 1006 2 (nI (wt.length + 1))) (hdW wt v) := by
  rw [hdW_p hl]
  refine ⟨by rw [upI_s]; rfl, by rw [List.length_cons]; omega, fun k hk => ?_⟩
  rw [List.length_cons] at hk
  rw [upI_nea (by decide), List.reverse_cons]
  by_cases z : k = wt.length
  · rw [z, upI_s]
    have := getD_last (l := wt.reverse) (s := v)
    rw [List.length_reverse] at this
    exact this.symm
  · rw [upI_j z, getD_app (by rw [List.length_reverse]; omega)]; exact hA.2.2 k (by omega)
theorem RW_pop {s : Int32} (hA : RW I (s :: wt)) : I 1006 2 = nI (wt.length + 1) ∧ I 1007 wt.length = s ∧ RW (upI I 1006 2 (nI wt.length)) wt := by
  obtain ⟨a, b, c⟩ := hA
  rw [List.length_cons] at a b c
  refine ⟨a, ?_, upI_s, by omega, fun k hk => ?_⟩
  · have := getD_last (l := wt.reverse) (s := s)
    rw [List.length_reverse] at this
    rw [c wt.length (by omega), List.reverse_cons]; exact this
  · rw [upI_nea (by decide), c k (by omega), List.reverse_cons, getD_app (by rw [List.length_reverse]; omega)]
theorem fI {v : Int32} (hv : v = 0 ∨ v = 1) : v = 0 ∨ v = 1 := hv

set_option maxHeartbeats 1000000 in
set_option maxRecDepth 20000 in
theorem tX6_add (hW : jWok w l) (hR : RS R) (hh : h = 1008 ∨ h = 1024) (hA : RA I h code) {v : Int32} : jRv w l mX6_add 1 [.ref (h + 5), .int v] (n, shE, I, L, R) (fun t => ∃ J, t = (n, shE, J, L, R) ∧ RA J h (adC code v) ∧ ∀ b j, b ≠ h + 5 → b ≠ h + 6 → J b j = I b j) := by
  refine jRv_of hW (by decide) rfl (Nat.le_of_ble_eq_true rfl) ?_
  have hA1 := hA.1
  have hA2 := hA.2.1
  rcases hh with rfl | rfl
  all_goals
    refine jx_aload_n dX6_add_0 rfl ?_
    refine jx_getIE dX6_add_1 flX6_18 rfl rfl (hA1) ?_
    refine jx_aload_n dX6_add_4 rfl ?_
    refine jx_getR dX6_add_5 flX6_9 rfl rfl (hR _ _ _ rfl) ?_
    refine jx_alen dX6_add_8 rfl (by decide) (by decide) ?_
    refine jx_icmpN_ge (a := code.length) (b := 700) 32 dX6_add_9 (by decide) (by omega) (by omega) (fun h9 => ?_) (fun h9 => ?_)
    · refine jx_vret dX6_add_32 rfl ?_
      first
      | exact ⟨rfl, _, rfl, RA_add (by decide) hA (by omega), fun b j h1 h2 => (upI_nea h1).trans (upI_nea h2)⟩
      | (refine ⟨rfl, I, rfl, ?_, fun _ _ _ _ => rfl⟩; unfold adC; rw [if_neg (by omega)]; exact hA)
    · refine jx_aload_n dX6_add_12 rfl ?_
      refine jx_getR dX6_add_13 flX6_9 rfl rfl (hR _ _ _ rfl) ?_
      refine jx_aload_n dX6_add_16 rfl ?_
      refine jx_getIE dX6_add_17 flX6_18 rfl rfl (hA1) ?_
      refine jx_iload_n dX6_add_20 rfl ?_
      refine jx_iastN (code.length) dX6_add_21 rfl (rfl) (by omega) (by omega) ?_
      refine jx_aload_n dX6_add_22 rfl ?_
      refine jx_dup dX6_add_23 rfl ?_
      refine jx_getIE dX6_add_24 flX6_18 rfl rfl ((upI_nea (by decide)).trans hA1) ?_
      refine jx_iconst (v := 1) dX6_add_27 (by decide) ?_
      refine jx_iaddE (z := nI (code.length + 1)) dX6_add_28 (nI_add code.length 1) ?_
      refine jx_putI dX6_add_29 flX6_18 rfl rfl (fun r h => by cases h; rfl) ?_
      refine jx_vret dX6_add_32 rfl ?_
      first
      | exact ⟨rfl, _, rfl, RA_add (by decide) hA (by omega), fun b j h1 h2 => (upI_nea h1).trans (upI_nea h2)⟩
      | (refine ⟨rfl, I, rfl, ?_, fun _ _ _ _ => rfl⟩; unfold adC; rw [if_neg (by omega)]; exact hA)
set_option maxHeartbeats 1000000 in
set_option maxRecDepth 20000 in
theorem tX7_hold (hW : jWok w l) (hR : RS R) (hA : RW I wt) {v : Int32} : jRv w l mX7_hold 1 [.ref 1006, .int v] (n, shE, I, L, R) (fun t => ∃ J, t = (n, shE, J, L, R) ∧ RW J (hdW wt v) ∧ ∀ b j, b ≠ 1007 → ¬ (b = 1006 ∧ j = 2) → J b j = I b j) := by
  refine jRv_of hW (by decide) rfl (Nat.le_of_ble_eq_true rfl) ?_
  have hA1 := hA.1
  have hA2 := hA.2.1
  refine jx_aload_n dX7_hold_0 rfl ?_
  refine jx_getIE dX7_hold_1 flX7_23 rfl rfl (hA1) ?_
  refine jx_aload_n dX7_hold_4 rfl ?_
  refine jx_getR dX7_hold_5 flX7_9 rfl rfl (hR _ _ _ rfl) ?_
  refine jx_alen dX7_hold_8 rfl (by decide) (by decide) ?_
  refine jx_icmpN_ge (a := wt.length) (b := 96) 32 dX7_hold_9 (by decide) (by omega) (by omega) (fun h9 => ?_) (fun h9 => ?_)
  · refine jx_vret dX7_hold_32 rfl ?_
    first
    | exact ⟨rfl, _, rfl, RW_add hA (by omega), fun b j h1 h2 => (upI_ne h2).trans (upI_nea h1)⟩
    | (refine ⟨rfl, I, rfl, ?_, fun _ _ _ _ => rfl⟩; unfold hdW; rw [if_neg (by omega)]; exact hA)
  · refine jx_aload_n dX7_hold_12 rfl ?_
    refine jx_getR dX7_hold_13 flX7_9 rfl rfl (hR _ _ _ rfl) ?_
    refine jx_aload_n dX7_hold_16 rfl ?_
    refine jx_getIE dX7_hold_17 flX7_23 rfl rfl (hA1) ?_
    refine jx_iload_n dX7_hold_20 rfl ?_
    refine jx_iastN (wt.length) dX7_hold_21 rfl (rfl) (by omega) (by omega) ?_
    refine jx_aload_n dX7_hold_22 rfl ?_
    refine jx_dup dX7_hold_23 rfl ?_
    refine jx_getIE dX7_hold_24 flX7_23 rfl rfl ((upI_nea (by decide)).trans hA1) ?_
    refine jx_iconst (v := 1) dX7_hold_27 (by decide) ?_
    refine jx_iaddE (z := nI (wt.length + 1)) dX7_hold_28 (nI_add wt.length 1) ?_
    refine jx_putI dX7_hold_29 flX7_23 rfl rfl (fun r h => by cases h; rfl) ?_
    refine jx_vret dX7_hold_32 rfl ?_
    first
    | exact ⟨rfl, _, rfl, RW_add hA (by omega), fun b j h1 h2 => (upI_ne h2).trans (upI_nea h1)⟩
    | (refine ⟨rfl, I, rfl, ?_, fun _ _ _ _ => rfl⟩; unfold hdW; rw [if_neg (by omega)]; exact hA)
set_option maxHeartbeats 1000000 in
set_option maxRecDepth 20000 in
theorem tX7_rankOfSign (hW : jWok w l) {σ : jHS} (s : Int32) : jCD w l mX7_rankOfSign 1 [.int s] σ (some (.int (nI (rkS s)))) σ := by
  refine jCD_of hW (by decide) rfl (Nat.le_of_ble_eq_true rfl) ?_
  refine jx_iload_n dX7_rankOfSign_0 rfl ?_
  by_cases hs1_0 : s = (-13)
  · subst hs1_0
    refine jx_tsIn 62 dX7_rankOfSign_1 (by decide) (by decide) rfl (by decide) ?_
    refine jx_bipush (v := 6) dX7_rankOfSign_62 (by decide) ?_
    refine jx_iret dX7_rankOfSign_64 rfl ?_
    first
    | exact ⟨by decide, rfl⟩
    | exact ⟨rfl, rfl⟩
    | (refine ⟨?_, rfl⟩; unfold rkS; rw [if_neg hs1_8, if_neg hs1_7, if_neg hs1_6, if_neg (by intro q; rcases q with q | q; exact hs1_5 q; exact hs1_4 q), if_neg (by intro q; rcases q with q | q; exact hs1_3 q; exact hs1_2 q), if_neg (by intro q; rcases q with q | q; exact hs1_1 q; exact hs1_0 q)]; rfl)
  by_cases hs1_1 : s = (-12)
  · subst hs1_1
    refine jx_tsIn 62 dX7_rankOfSign_1 (by decide) (by decide) rfl (by decide) ?_
    refine jx_bipush (v := 6) dX7_rankOfSign_62 (by decide) ?_
    refine jx_iret dX7_rankOfSign_64 rfl ?_
    first
    | exact ⟨by decide, rfl⟩
    | exact ⟨rfl, rfl⟩
    | (refine ⟨?_, rfl⟩; unfold rkS; rw [if_neg hs1_8, if_neg hs1_7, if_neg hs1_6, if_neg (by intro q; rcases q with q | q; exact hs1_5 q; exact hs1_4 q), if_neg (by intro q; rcases q with q | q; exact hs1_3 q; exact hs1_2 q), if_neg (by intro q; rcases q with q | q; exact hs1_1 q; exact hs1_0 q)]; rfl)
  by_cases hs1_2 : s = (-11)
  · subst hs1_2
    refine jx_tsIn 60 dX7_rankOfSign_1 (by decide) (by decide) rfl (by decide) ?_
    refine jx_iconst (v := 5) dX7_rankOfSign_60 (by decide) ?_
    refine jx_iret dX7_rankOfSign_61 rfl ?_
    first
    | exact ⟨by decide, rfl⟩
    | exact ⟨rfl, rfl⟩
    | (refine ⟨?_, rfl⟩; unfold rkS; rw [if_neg hs1_8, if_neg hs1_7, if_neg hs1_6, if_neg (by intro q; rcases q with q | q; exact hs1_5 q; exact hs1_4 q), if_neg (by intro q; rcases q with q | q; exact hs1_3 q; exact hs1_2 q), if_neg (by intro q; rcases q with q | q; exact hs1_1 q; exact hs1_0 q)]; rfl)
  by_cases hs1_3 : s = (-10)
  · subst hs1_3
    refine jx_tsIn 60 dX7_rankOfSign_1 (by decide) (by decide) rfl (by decide) ?_
    refine jx_iconst (v := 5) dX7_rankOfSign_60 (by decide) ?_
    refine jx_iret dX7_rankOfSign_61 rfl ?_
    first
    | exact ⟨by decide, rfl⟩
    | exact ⟨rfl, rfl⟩
    | (refine ⟨?_, rfl⟩; unfold rkS; rw [if_neg hs1_8, if_neg hs1_7, if_neg hs1_6, if_neg (by intro q; rcases q with q | q; exact hs1_5 q; exact hs1_4 q), if_neg (by intro q; rcases q with q | q; exact hs1_3 q; exact hs1_2 q), if_neg (by intro q; rcases q with q | q; exact hs1_1 q; exact hs1_0 q)]; rfl)
  by_cases hs1_4 : s = (-9)
  · subst hs1_4
    refine jx_tsIn 58 dX7_rankOfSign_1 (by decide) (by decide) rfl (by decide) ?_
    refine jx_iconst (v := 4) dX7_rankOfSign_58 (by decide) ?_
    refine jx_iret dX7_rankOfSign_59 rfl ?_
    first
    | exact ⟨by decide, rfl⟩
    | exact ⟨rfl, rfl⟩
    | (refine ⟨?_, rfl⟩; unfold rkS; rw [if_neg hs1_8, if_neg hs1_7, if_neg hs1_6, if_neg (by intro q; rcases q with q | q; exact hs1_5 q; exact hs1_4 q), if_neg (by intro q; rcases q with q | q; exact hs1_3 q; exact hs1_2 q), if_neg (by intro q; rcases q with q | q; exact hs1_1 q; exact hs1_0 q)]; rfl)
  by_cases hs1_5 : s = (-8)
  · subst hs1_5
    refine jx_tsIn 58 dX7_rankOfSign_1 (by decide) (by decide) rfl (by decide) ?_
    refine jx_iconst (v := 4) dX7_rankOfSign_58 (by decide) ?_
    refine jx_iret dX7_rankOfSign_59 rfl ?_
    first
    | exact ⟨by decide, rfl⟩
    | exact ⟨rfl, rfl⟩
    | (refine ⟨?_, rfl⟩; unfold rkS; rw [if_neg hs1_8, if_neg hs1_7, if_neg hs1_6, if_neg (by intro q; rcases q with q | q; exact hs1_5 q; exact hs1_4 q), if_neg (by intro q; rcases q with q | q; exact hs1_3 q; exact hs1_2 q), if_neg (by intro q; rcases q with q | q; exact hs1_1 q; exact hs1_0 q)]; rfl)
  by_cases hs1_6 : s = (-7)
  · subst hs1_6
    refine jx_tsIn 56 dX7_rankOfSign_1 (by decide) (by decide) rfl (by decide) ?_
    refine jx_iconst (v := 3) dX7_rankOfSign_56 (by decide) ?_
    refine jx_iret dX7_rankOfSign_57 rfl ?_
    first
    | exact ⟨by decide, rfl⟩
    | exact ⟨rfl, rfl⟩
    | (refine ⟨?_, rfl⟩; unfold rkS; rw [if_neg hs1_8, if_neg hs1_7, if_neg hs1_6, if_neg (by intro q; rcases q with q | q; exact hs1_5 q; exact hs1_4 q), if_neg (by intro q; rcases q with q | q; exact hs1_3 q; exact hs1_2 q), if_neg (by intro q; rcases q with q | q; exact hs1_1 q; exact hs1_0 q)]; rfl)
  by_cases hs1_7 : s = (-6)
  · subst hs1_7
    refine jx_tsIn 54 dX7_rankOfSign_1 (by decide) (by decide) rfl (by decide) ?_
    refine jx_iconst (v := 2) dX7_rankOfSign_54 (by decide) ?_
    refine jx_iret dX7_rankOfSign_55 rfl ?_
    first
    | exact ⟨by decide, rfl⟩
    | exact ⟨rfl, rfl⟩
    | (refine ⟨?_, rfl⟩; unfold rkS; rw [if_neg hs1_8, if_neg hs1_7, if_neg hs1_6, if_neg (by intro q; rcases q with q | q; exact hs1_5 q; exact hs1_4 q), if_neg (by intro q; rcases q with q | q; exact hs1_3 q; exact hs1_2 q), if_neg (by intro q; rcases q with q | q; exact hs1_1 q; exact hs1_0 q)]; rfl)
  by_cases hs1_8 : s = (-5)
  · subst hs1_8
    refine jx_tsIn 52 dX7_rankOfSign_1 (by decide) (by decide) rfl (by decide) ?_
    refine jx_iconst (v := 1) dX7_rankOfSign_52 (by decide) ?_
    refine jx_iret dX7_rankOfSign_53 rfl ?_
    first
    | exact ⟨by decide, rfl⟩
    | exact ⟨rfl, rfl⟩
    | (refine ⟨?_, rfl⟩; unfold rkS; rw [if_neg hs1_8, if_neg hs1_7, if_neg hs1_6, if_neg (by intro q; rcases q with q | q; exact hs1_5 q; exact hs1_4 q), if_neg (by intro q; rcases q with q | q; exact hs1_3 q; exact hs1_2 q), if_neg (by intro q; rcases q with q | q; exact hs1_1 q; exact hs1_0 q)]; rfl)
  refine jx_tsOut 65 dX7_rankOfSign_1 ?_ (by decide) ?_
  · have z0 := lv_neT hs1_0 (a := -13) rfl; have z1 := lv_neT hs1_1 (a := -12) rfl; have z2 := lv_neT hs1_2 (a := -11) rfl; have z3 := lv_neT hs1_3 (a := -10) rfl; have z4 := lv_neT hs1_4 (a := -9) rfl; have z5 := lv_neT hs1_5 (a := -8) rfl; have z6 := lv_neT hs1_6 (a := -7) rfl; have z7 := lv_neT hs1_7 (a := -6) rfl; have z8 := lv_neT hs1_8 (a := -5) rfl; omega
  refine jx_iconst (v := 0) dX7_rankOfSign_65 (by decide) ?_
  refine jx_iret dX7_rankOfSign_66 rfl ?_
  first
  | exact ⟨by decide, rfl⟩
  | exact ⟨rfl, rfl⟩
  | (refine ⟨?_, rfl⟩; unfold rkS; rw [if_neg hs1_8, if_neg hs1_7, if_neg hs1_6, if_neg (by intro q; rcases q with q | q; exact hs1_5 q; exact hs1_4 q), if_neg (by intro q; rcases q with q | q; exact hs1_3 q; exact hs1_2 q), if_neg (by intro q; rcases q with q | q; exact hs1_1 q; exact hs1_0 q)]; rfl)
set_option maxHeartbeats 1000000 in
set_option maxRecDepth 20000 in
theorem tX7_release (hW : jWok w l) (hR : RS R) (hh : h = 1008 ∨ h = 1024) (hRt : R 1006 3 = some (h + 5)) (hA : RA I h code) (hB : RW I wt) {r : Nat} (hr : r ≤ 6) : jRv w l mX7_release 2 [.ref 1006, .int (nI r)] (n, shE, I, L, R) (fun t => (∃ J, t = (n, shE, J, L, R) ∧ RA J h (rlC r code wt).1 ∧ RW J (rlC r code wt).2 ∧ ∀ b j, b ≠ h + 5 → b ≠ h + 6 → ¬ (b = 1006 ∧ j = 2) → J b j = I b j)) := by
  refine jRv_of hW (by decide) rfl (Nat.le_of_ble_eq_true rfl) ?_
  have key : ∀ (ws cs : List Int32) (K : Nat → Nat → Int32), RA K h cs → RW K ws → rlC r code wt = rlC r cs ws → (∀ b j, b ≠ h + 5 → b ≠ h + 6 → ¬ (b = 1006 ∧ j = 2) → K b j = I b j) → jWP w l mX7_release 2 0 0 (fun v t => v = none ∧ (∃ J, t = (n, shE, J, L, R) ∧ RA J h (rlC r code wt).1 ∧ RW J (rlC r code wt).2 ∧ ∀ b j, b ≠ h + 5 → b ≠ h + 6 → ¬ (b = 1006 ∧ j = 2) → J b j = I b j)) (fun _ _ => False) 0 [(0, .ref 1006), (1, .int (nI r))] [] (n, shE, K, L, R) := by
    intro ws
    induction ws with
    | nil =>
      intro cs K kA kB ke kf
      have kB1 : K 1006 2 = nI 0 := kB.1
      refine jx_aload_n dX7_release_0 rfl ?_
      refine jx_getIE dX7_release_1 flX7_23 rfl rfl (kB1) ?_
      refine jx_ifN_le (a := 0) 66 dX7_release_4 (by decide) (by decide) (fun h4 => ?_) (fun h4 => absurd h4 (by decide))
      refine jx_vret dX7_release_66 rfl ?_
      exact ⟨rfl, K, rfl, by rw [ke]; exact kA, by rw [ke]; exact kB, kf⟩
    | cons s ws ih =>
      intro cs K kA kB ke kf
      have hP := RW_pop kB
      have hl96 := kB.2.1
      rw [List.length_cons] at hl96
      have hs6 := rkS_6 s
      rcases hh with rfl | rfl
      all_goals
        refine jx_aload_n dX7_release_0 rfl ?_
        refine jx_getIE dX7_release_1 flX7_23 rfl rfl (hP.1) ?_
        refine jx_ifN_le (a := (ws.length + 1)) 66 dX7_release_4 (by decide) (by omega) (fun h4 => ?_) (fun h4 => ?_)
        · exact absurd h4 (by omega)
        · refine jx_aload_n dX7_release_7 rfl ?_
          refine jx_getIE dX7_release_8 flX7_23 rfl rfl (hP.1) ?_
          refine jx_aload_n dX7_release_11 rfl ?_
          refine jx_getR dX7_release_12 flX7_9 rfl rfl (hR _ _ _ rfl) ?_
          refine jx_alen dX7_release_15 rfl (by decide) (by decide) ?_
          refine jx_icmpN_gt (a := (ws.length + 1)) (b := 96) 66 dX7_release_16 (by decide) (by omega) (by omega) (fun h16 => ?_) (fun h16 => ?_)
          · exact absurd h16 (by omega)
          · refine jx_aload_n dX7_release_19 rfl ?_
            refine jx_getR dX7_release_20 flX7_9 rfl rfl (hR _ _ _ rfl) ?_
            refine jx_aload_n dX7_release_23 rfl ?_
            refine jx_getIE dX7_release_24 flX7_23 rfl rfl (hP.1) ?_
            refine jx_iconst (v := 1) dX7_release_27 (by decide) ?_
            refine jx_isubE (z := nI ws.length) dX7_release_28 (pk_sub (a := ws.length + 1) (b := 1) (by omega)) ?_
            refine jx_ialdE (ws.length) dX7_release_29 rfl (rfl) (by omega) (by omega) (hP.2.1) ?_
            refine jx_Si (as := [.int _]) dX7_release_30 mlX7_120 okX7_rankOfSign stX7_rankOfSign rfl rfl (by decide) (Nat.le_of_ble_eq_true rfl) (tX7_rankOfSign hW s) ?_
            refine jx_iload_n dX7_release_33 rfl ?_
            refine jx_icmpN_lt (a := (rkS s)) (b := r) 66 dX7_release_34 (by decide) (by omega) (by omega) (fun h34 => ?_) (fun h34 => ?_)
            · have ke2 : rlC r cs (s :: ws) = (cs, s :: ws) := by rw [rlC, if_neg (by omega)]
              rw [ke2] at ke
              refine jx_vret dX7_release_66 rfl ?_
              exact ⟨rfl, K, rfl, by rw [ke]; exact kA, by rw [ke]; exact kB, kf⟩
            · have ke2 : rlC r cs (s :: ws) = rlC r (adC cs s) ws := by rw [rlC, if_pos (by omega)]
              rw [ke2] at ke
              refine jx_aload_n dX7_release_37 rfl ?_
              refine jx_dup dX7_release_38 rfl ?_
              refine jx_getIE dX7_release_39 flX7_23 rfl rfl (hP.1) ?_
              refine jx_iconst (v := 1) dX7_release_42 (by decide) ?_
              refine jx_isubE (z := nI ws.length) dX7_release_43 (pk_sub (a := ws.length + 1) (b := 1) (by omega)) ?_
              refine jx_putI dX7_release_44 flX7_23 rfl rfl (fun r h => by cases h; rfl) ?_
              refine jx_aload_n dX7_release_47 rfl ?_
              refine jx_getR dX7_release_48 flX7_19 rfl rfl hRt ?_
              refine jx_aload_n dX7_release_51 rfl ?_
              refine jx_getR dX7_release_52 flX7_9 rfl rfl (hR _ _ _ rfl) ?_
              refine jx_aload_n dX7_release_55 rfl ?_
              refine jx_getIE dX7_release_56 flX7_23 rfl rfl (upI_s) ?_
              refine jx_ialdE (ws.length) dX7_release_59 rfl (rfl) (by omega) (by omega) ((upI_nea (by decide)).trans hP.2.1) ?_
              refine jx_VRv (as := [.int _]) dX7_release_60 mlX7_100 okX6_add viX6_add rfl rfl rfl rfl rfl (by decide) (Nat.le_of_ble_eq_true rfl) (tX6_add hW hR (by decide) (kA.f (fun _ => upI_nea (by decide)) (fun _ => upI_nea (by decide)))) (fun t60 hq60 => ?_)
              obtain ⟨K2, rfl, a2, f2⟩ := hq60
              refine jx_goto 0 dX7_release_63 (by decide) ?_
              exact jx_ls (by exact ⟨rfl, rfl, trivial⟩) (ih _ K2 a2 (hP.2.2.f (f2 _ _ (by decide) (by decide)) (fun _ => f2 _ _ (by decide) (by decide))) ke (fun b j h1 h2 h3 => (f2 b j h1 h2).trans ((upI_ne h3).trans (kf b j h1 h2 h3))))
  exact jx_ls (by exact ⟨rfl, rfl, trivial⟩) (key wt code I hA hB rfl (fun _ _ _ _ _ => rfl))
set_option maxHeartbeats 1000000 in
set_option maxRecDepth 20000 in
theorem tX7_beginTest (hW : jWok w l) (hR : RS R) (hd : I 1006 4 = nI d) (hd6 : d ≤ 6) (hc : I 1006 6 = nI cp) (hc7 : cp < 128) : jRv w l mX7_beginTest 1 [.ref 1006] (n, shE, I, L, R) (fun t => t = (n, shE, upI (upI (upI (upI I 1006 6 (nI (cpC cp d))) 1006 5 0) 1006 8 1) 1006 9 1, L, R)) := by
  refine jRv_of hW (by decide) rfl (Nat.le_of_ble_eq_true rfl) ?_
  refine jx_aload_n dX7_beginTest_0 rfl ?_
  refine jx_dup dX7_beginTest_1 rfl ?_
  refine jx_getIE dX7_beginTest_2 flX7_66 rfl rfl (hc) ?_
  refine jx_iconst (v := 1) dX7_beginTest_5 (by decide) ?_
  refine jx_aload_n dX7_beginTest_6 rfl ?_
  refine jx_getIE dX7_beginTest_7 flX7_27 rfl rfl (hd) ?_
  refine jx_ishl dX7_beginTest_10 ?_
  refine jx_iconst (v := -1) dX7_beginTest_11 (by decide) ?_
  refine jx_ixor dX7_beginTest_12 ?_
  refine jx_iandE (z := nI (cpC cp d)) dX7_beginTest_13 ((cp_2 cp hc7 d (by omega)).1) ?_
  refine jx_putI dX7_beginTest_14 flX7_66 rfl rfl (fun r h => by cases h; rfl) ?_
  refine jx_aload_n dX7_beginTest_17 rfl ?_
  refine jx_iconst (v := 0) dX7_beginTest_18 (by decide) ?_
  refine jx_putI dX7_beginTest_19 flX7_69 rfl rfl (fun r h => by cases h; rfl) ?_
  refine jx_aload_n dX7_beginTest_22 rfl ?_
  refine jx_iconst (v := 1) dX7_beginTest_23 (by decide) ?_
  refine jx_putZ dX7_beginTest_24 flX7_72 rfl rfl (fun r h => by cases h; rfl) (by first | exact Or.inl rfl | exact Or.inr rfl | exact jb_or _) ?_
  refine jx_aload_n dX7_beginTest_27 rfl ?_
  refine jx_iconst (v := 1) dX7_beginTest_28 (by decide) ?_
  refine jx_putZ dX7_beginTest_29 flX7_33 rfl rfl (fun r h => by cases h; rfl) (by first | exact Or.inl rfl | exact Or.inr rfl | exact jb_or _) ?_
  refine jx_vret dX7_beginTest_32 rfl ?_
  exact ⟨rfl, rfl⟩
set_option maxHeartbeats 1000000 in
set_option maxRecDepth 20000 in
theorem tX7_beginExpr (hW : jWok w l) (hR : RS R) (hd : I 1006 4 = nI d) (hd6 : d ≤ 6) (hc : I 1006 6 = nI cp) (hc7 : cp < 128) : jRv w l mX7_beginExpr 2 [.ref 1006] (n, shE, I, L, R) (fun t => t = (n, shE, upI (upI (upI (upI (upI I 1006 7 1) 1006 6 (nI (cpC cp d))) 1006 5 0) 1006 8 1) 1006 9 1, L, R)) := by
  refine jRv_of hW (by decide) rfl (Nat.le_of_ble_eq_true rfl) ?_
  refine jx_aload_n dX7_beginExpr_0 rfl ?_
  refine jx_iconst (v := 1) dX7_beginExpr_1 (by decide) ?_
  refine jx_putZ dX7_beginExpr_2 flX7_60 rfl rfl (fun r h => by cases h; rfl) (by first | exact Or.inl rfl | exact Or.inr rfl | exact jb_or _) ?_
  refine jx_aload_n dX7_beginExpr_5 rfl ?_
  refine jx_VRv (as := []) dX7_beginExpr_6 mlX7_63 okX7_beginTest viX7_beginTest rfl rfl rfl rfl rfl (by decide) (Nat.le_of_ble_eq_true rfl) (tX7_beginTest hW hR ((upI_j (by decide)).trans hd) hd6 ((upI_j (by decide)).trans hc) hc7) (fun t6 hq6 => ?_)
  subst hq6
  refine jx_vret dX7_beginExpr_9 rfl ?_
  exact ⟨rfl, rfl⟩
end CZ8
