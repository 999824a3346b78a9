/-! THE CLASS: the fewest days -/
theorem xr64 : ∀ s, s < 64 → ∀ k, k < 64 → nI s ^^^ nI k = nI (s ^^^ k) := by decide +kernel
theorem sub_nx : ∀ m, m < 64 → ∀ y, y < 64 → y &&& m = y → ∀ x, x < y → (y - 1) &&& m < x → x &&& m ≠ x := by decide +kernel
theorem sub_xl : ∀ s, s < 64 → ∀ y, y < 64 → y &&& s = y → y ≠ 0 → s ^^^ y < s := by decide +kernel
theorem sub_as {y S ab : Nat} (h : y &&& (S &&& ab) = y) : y &&& S = y := by
  rw [← h, Nat.and_assoc, Nat.and_assoc, Nat.and_comm ab S, ← Nat.and_assoc S S ab, Nat.and_self]
theorem sN_n {f : Nat → Bool} {n : Nat} : ∀ m, n ≤ m → (∀ p, n ≤ p → f p = false) → sN f m = sN f n
  | 0, h, _ => by rw [Nat.le_zero.mp h]
  | m + 1, h, hf => by
    by_cases z : n = m + 1
    · rw [z]
    · rw [sN, sN_n m (by omega) hf, hf m (by omega), if_neg (by decide), Nat.or_zero]
theorem gq_m0 {F : Nat → Nat} {tog : Nat → Bool} {S m j : Nat} (hm : m = 0) (hj : j ≤ 64) : gq F tog S m j = F S := by
  rw [gq_skip (i := 0) j (Nat.zero_le _) hj (fun x _ _ q => q.1 (by rw [← q.2.1, hm, Nat.and_zero]))]; rfl
theorem gq_63 {F : Nat → Nat} {tog : Nat → Bool} {S m : Nat} : gq F tog S m 64 = gq F tog S m 63 := by
  rw [gq, if_neg (fun q => q.1 rfl)]
theorem gq_y {F : Nat → Nat} {tog : Nat → Bool} {S m y : Nat} (hy : y < 64) (h : gqV tog m y) : gq F tog S m (64 - y) = min (gq F tog S m (63 - y)) (F (S ^^^ y) + 1) := by
  rw [show 64 - y = (63 - y) + 1 by omega, gq, show 63 - (63 - y) = y by omega, if_pos h]
theorem gq_z {F : Nat → Nat} {tog : Nat → Bool} {S m y : Nat} (hy : y < 64) (h : ¬ gqV tog m y) : gq F tog S m (64 - y) = gq F tog S m (63 - y) := by
  rw [show 64 - y = (63 - y) + 1 by omega, gq, show 63 - (63 - y) = y by omega, if_neg h]
theorem gq_nx {F : Nat → Nat} {tog : Nat → Bool} {S m y : Nat} (hm : m < 64) (hy : y < 64) (h : y &&& m = y) (h0 : 0 < y) : gq F tog S m (63 - ((y - 1) &&& m)) = gq F tog S m (64 - y) := by
  have hl : (y - 1) &&& m ≤ y - 1 := Nat.and_le_left
  refine gq_skip _ (by omega) (by omega) (fun x h1 h2 q => sub_nx m hm y hy h x (by omega) (by omega) q.2.1)
theorem nI_min {a b : Nat} (ha : a < 2 ^ 31) (hb : b < 2 ^ 31) : (if nI b < nI a then nI b else nI a) = nI (min a b) := by
  have : (nI b < nI a) ↔ b < a := by rw [Int32.lt_iff_toInt_lt, nI_toInt ha, nI_toInt hb]; omega
  by_cases z : b < a
  · rw [if_pos (this.mpr z), Nat.min_eq_right (by omega)]
  · rw [if_neg (fun q => z (this.mp q)), Nat.min_eq_left (by omega)]
theorem pc_cnt : ∀ s, s < 64 → pc6 s = cntN (fun p => s.testBit p) 6 := by decide +kernel
section BW1
variable {w : jWD} {l : Launch} {n : Nat} {I : Nat → Nat → Int32} {L : Nat → Nat → Int64} {R : Nat → Nat → Option Nat} {h np : Nat} {op : Nat → Nat → Bool} {tog : Nat → Bool}

set_option maxHeartbeats 1000000 in
set_option maxRecDepth 20000 in
theorem tX4_partiesOpenOn (hW : jWok w l) (hR : RS R) (hh : h = 1008 ∨ h = 1024) (hRi : R 1040 0 = some h) (hn : I h 3 = nI np) (hn6 : np ≤ 6) (hop : ∀ p, p < np → L 1047 p = bs (op p)) {day : Nat} (hd : day ≤ 40) : jCD w l mX4_partiesOpenOn 3 [.ref 1046, .int (nI day)] (n, shE, I, L, R) (some (.int (nI (sN (fun p => op p day) np)))) (n, shE, I, L, R) := by
  refine jCD_of hW (by decide) rfl (Nat.le_of_ble_eq_true rfl) ?_
  have key : ∀ k, k ≤ np → jWP w l mX4_partiesOpenOn 3 0 0 (fun r t => r = some (.int (nI (sN (fun p => op p day) np))) ∧ t = (n, shE, I, L, R)) (fun _ _ => False) 4 [(0, .ref 1046), (1, .int (nI day)), (2, .int (nI (sN (fun p => op p day) k))), (3, .int (nI k))] [] (n, shE, I, L, R) := by
    refine jdown _ (fun k hk ih => ?_)
    have hsl : sN (fun p => op p day) k < 64 := Nat.lt_of_lt_of_le (sN_lt k) (show 2 ^ k ≤ 2 ^ 6 from Nat.pow_le_pow_right (by decide) (by omega))
    rcases hh with rfl | rfl
    all_goals
      refine jx_iload_n dX4_partiesOpenOn_4 rfl ?_
      refine jx_aload_n dX4_partiesOpenOn_5 rfl ?_
      refine jx_getR dX4_partiesOpenOn_6 flX4_26 rfl rfl (hR _ _ _ rfl) ?_
      refine jx_getR dX4_partiesOpenOn_9 flX4_30 rfl rfl hRi ?_
      refine jx_getIE dX4_partiesOpenOn_12 flX4_36 rfl rfl (hn) ?_
      refine jx_icmpN_ge (a := k) (b := np) 43 dX4_partiesOpenOn_15 (by decide) (by omega) (by omega) (fun h15 => ?_) (fun h15 => ?_)
      · refine jx_iload_n dX4_partiesOpenOn_43 rfl ?_
        refine jx_iret dX4_partiesOpenOn_44 rfl ?_
        have hkn : k = np := by omega
        rw [hkn]
        exact ⟨rfl, rfl⟩
      · refine jx_aload_n dX4_partiesOpenOn_18 rfl ?_
        refine jx_getR dX4_partiesOpenOn_19 flX4_9 rfl rfl (hR _ _ _ rfl) ?_
        refine jx_iload_n dX4_partiesOpenOn_22 rfl ?_
        refine jx_laldE (k) dX4_partiesOpenOn_23 rfl (rfl) (by omega) (by omega) (hop k (by omega)) ?_
        refine jx_iload_n dX4_partiesOpenOn_24 rfl ?_
        refine jx_Ni (as := [.long _, .int _]) dX4_partiesOpenOn_25 mlX4_68 okX10_has stX10_has rfl (by decide) (Nat.le_of_ble_eq_true rfl) (tX10_has hW (by omega) _) ?_
        refine jx_ifB_eq 37 dX4_partiesOpenOn_28 (by decide) (fun h28 => ?_) (fun h28 => ?_)
        · rw [bt_bs (by omega)] at h28
          refine jx_iinc dX4_partiesOpenOn_37 rfl (v := nI (k + 1)) (nI_1 _) (by decide) ?_
          refine jx_goto 4 dX4_partiesOpenOn_40 (by decide) ?_
          have kk := ih (by omega)
          rw [show sN (fun p => op p day) (k + 1) = sN (fun p => op p day) k from by rw [sN, h28, if_neg (by decide), Nat.or_zero]] at kk
          exact jx_ls (by exact ⟨rfl, rfl, rfl, rfl, trivial⟩) kk
        · rw [bt_bs (by omega)] at h28
          refine jx_iload_n dX4_partiesOpenOn_31 rfl ?_
          refine jx_iconst (v := 1) dX4_partiesOpenOn_32 (by decide) ?_
          refine jx_iload_n dX4_partiesOpenOn_33 rfl ?_
          refine jx_ishl dX4_partiesOpenOn_34 ?_
          refine jx_iorE (z := nI ((sN (fun p => op p day) k) ||| (1 <<< k))) dX4_partiesOpenOn_35 ((or6n _ hsl k (by omega)).1) ?_
          refine jx_istore_n dX4_partiesOpenOn_36 rfl (by decide) ?_
          refine jx_iinc dX4_partiesOpenOn_37 rfl (v := nI (k + 1)) (nI_1 _) (by decide) ?_
          refine jx_goto 4 dX4_partiesOpenOn_40 (by decide) ?_
          have kk := ih (by omega)
          rw [show sN (fun p => op p day) (k + 1) = (sN (fun p => op p day) k) ||| (1 <<< k) from by rw [sN, h28, if_pos rfl, Nat.one_shiftLeft]] at kk
          exact jx_ls (by exact ⟨rfl, rfl, rfl, rfl, trivial⟩) kk
  refine jx_iconst (v := 0) dX4_partiesOpenOn_0 (by decide) ?_
  refine jx_istore_n dX4_partiesOpenOn_1 rfl (by decide) ?_
  refine jx_iconst (v := 0) dX4_partiesOpenOn_2 (by decide) ?_
  refine jx_istore_n dX4_partiesOpenOn_3 rfl (by decide) ?_
  exact jx_ls (by exact ⟨rfl, rfl, rfl, rfl, trivial⟩) (key 0 (Nat.zero_le _))
set_option maxHeartbeats 1000000 in
set_option maxRecDepth 20000 in
theorem tX4_fewestEbbs (hW : jWok w l) (hR : RS R) (hh : h = 1008 ∨ h = 1024) (hRi : R 1040 0 = some h) (hn : I h 3 = nI np) (hn6 : np ≤ 6) (hop : ∀ p, p < np → L 1047 p = bs (op p)) (hop6 : ∀ p, np ≤ p → ∀ d, op p d = false) (htog : ∀ s, s < 64 → I 1048 s = jb (tog s)) : jRi w l mX4_fewestEbbs 4 [.ref 1046] (n, shE, I, L, R) (fun r t => r = nI (fw tog (abT op) 41 (2 ^ np - 1)) ∧ ∃ J, t = (n, shE, J, L, R) ∧ eqx [1049] I J) := by
  refine jRi_of hW (by decide) rfl (Nat.le_of_ble_eq_true rfl) ?_
  have hE := E_lt hn6
  have hab : ∀ d, sN (fun p => op p d) np = abT op d := fun d => (sN_n (f := fun p => op p d) 6 hn6 (fun p hp => hop6 p hp d)).symm
  have key33 : ∀ d, d ≤ 41 → ∀ J, eqx [1049] I J → (∀ s, s ≤ 2 ^ np - 1 → J 1049 s = nI (fw tog (abT op) d s)) → jWP w l mX4_fewestEbbs 4 0 0 (fun v t => ∃ r, v = some (.int r) ∧ (r = nI (fw tog (abT op) 41 (2 ^ np - 1)) ∧ ∃ J, t = (n, shE, J, L, R) ∧ eqx [1049] I J)) (fun _ _ => False) 33 [(0, .ref 1046), (1, .int (nI (2 ^ np - 1))), (2, .int (nI d))] [] (n, shE, J, L, R) := by
    refine jdown _ (fun d hd ih => ?_)
    intro J0 e0 f0
    have hal := abT_lt (op := op) (d := d)
    have key127 : d < 41 → ∀ J, eqx [1049] I J → (∀ s, s ≤ 2 ^ np - 1 → J 1049 s = nI (fw tog (abT op) (d + 1) s)) → jWP w l mX4_fewestEbbs 4 0 0 (fun v t => ∃ r, v = some (.int r) ∧ (r = nI (fw tog (abT op) 41 (2 ^ np - 1)) ∧ ∃ J, t = (n, shE, J, L, R) ∧ eqx [1049] I J)) (fun _ _ => False) 127 [(0, .ref 1046), (1, .int (nI (2 ^ np - 1))), (2, .int (nI d))] [] (n, shE, J, L, R) := by
      intro hd41 J e f
      refine jx_iinc dX4_fewestEbbs_127 rfl (v := nI (d + 1)) (nI_1 _) (by decide) ?_
      refine jx_goto 33 dX4_fewestEbbs_130 (by decide) ?_
      exact jx_ls (by exact ⟨rfl, rfl, rfl, trivial⟩) (ih hd41 J e f)
    have key48 : d < 41 → ∀ S, S ≤ 2 ^ np - 1 → ∀ J, eqx [1049] I J → (∀ s, s ≤ 2 ^ np - 1 → J 1049 s = nI (if S < s then fw tog (abT op) (d + 1) s else fw tog (abT op) d s)) → jWP w l mX4_fewestEbbs 4 0 0 (fun v t => ∃ r, v = some (.int r) ∧ (r = nI (fw tog (abT op) 41 (2 ^ np - 1)) ∧ ∃ J, t = (n, shE, J, L, R) ∧ eqx [1049] I J)) (fun _ _ => False) 48 [(0, .ref 1046), (1, .int (nI (2 ^ np - 1))), (2, .int (nI d)), (3, .int (nI (abT op d))), (4, .int (nI S))] [] (n, shE, J, L, R) := by
      intro hd41 S
      induction S with
      | zero =>
        intro _ J e f
        refine jx_iload dX4_fewestEbbs_48 rfl ?_
        refine jx_ifN_le (a := 0) 127 dX4_fewestEbbs_50 (by decide) (by decide) (fun h50 => ?_) (fun h50 => absurd h50 (by decide))
        refine jx_ls (by exact ⟨rfl, rfl, rfl, trivial⟩) (key127 hd41 J e (fun s hs => ?_))
        rw [f s hs]
        by_cases z : 0 < s
        · rw [if_pos z]
        · rw [if_neg z]
          have z0 : s = 0 := by omega
          subst z0
          rw [fw, gq_m0 (Nat.zero_and _) (Nat.le_refl _)]
      | succ S ihS =>
        intro hSE J e f
        have hm : (S + 1) &&& abT op d < 64 := Nat.lt_of_le_of_lt Nat.and_le_right hal
        have h99 : ∀ x, fw tog (abT op) d x ≤ 99 := fun x => fw_99 d x
        have key63 : abT op d ≠ 0 → ∀ N y, y ≤ N → y &&& ((S + 1) &&& abT op d) = y → ∀ J, eqx [1049] I J → (∀ s, s ≤ 2 ^ np - 1 → J 1049 s = nI (if s = S + 1 then gq (fw tog (abT op) d) tog (S + 1) ((S + 1) &&& abT op d) (63 - y) else if S + 1 < s then fw tog (abT op) (d + 1) s else fw tog (abT op) d s)) → jWP w l mX4_fewestEbbs 4 0 0 (fun v t => ∃ r, v = some (.int r) ∧ (r = nI (fw tog (abT op) 41 (2 ^ np - 1)) ∧ ∃ J, t = (n, shE, J, L, R) ∧ eqx [1049] I J)) (fun _ _ => False) 63 [(0, .ref 1046), (1, .int (nI (2 ^ np - 1))), (2, .int (nI d)), (3, .int (nI (abT op d))), (4, .int (nI (S + 1))), (5, .int (nI y))] [] (n, shE, J, L, R) := by
          intro hab0 N
          induction N with
          | zero =>
            intro y hy hym J e f
            have hy0 : y = 0 := by omega
            subst hy0
            refine jx_iload dX4_fewestEbbs_63 rfl ?_
            refine jx_ifN_le (a := 0) 121 dX4_fewestEbbs_65 (by decide) (by decide) (fun h65 => ?_) (fun h65 => absurd h65 (by decide))
            refine jx_iinc dX4_fewestEbbs_121 rfl (v := nI ((S + 1) - 1)) (nI_m1 (by omega)) (by decide) ?_
            refine jx_goto 48 dX4_fewestEbbs_124 (by decide) ?_
            refine jx_ls (by exact ⟨rfl, rfl, rfl, rfl, rfl, trivial⟩) (ihS (by omega) J e (fun s hs => ?_))
            rw [f s hs]
            by_cases z : s = S + 1
            · rw [if_pos z, if_pos (by omega), z, fw]
              exact congrArg nI gq_63.symm
            · rw [if_neg z]
              by_cases z2 : S + 1 < s
              · rw [if_pos z2, if_pos (by omega)]
              · rw [if_neg z2, if_neg (by omega)]
          | succ N ihN =>
            intro y hy hym J e f
            by_cases hy0 : y = 0
            · subst hy0
              refine jx_iload dX4_fewestEbbs_63 rfl ?_
              refine jx_ifN_le (a := 0) 121 dX4_fewestEbbs_65 (by decide) (by decide) (fun h65 => ?_) (fun h65 => absurd h65 (by decide))
              refine jx_iinc dX4_fewestEbbs_121 rfl (v := nI ((S + 1) - 1)) (nI_m1 (by omega)) (by decide) ?_
              refine jx_goto 48 dX4_fewestEbbs_124 (by decide) ?_
              refine jx_ls (by exact ⟨rfl, rfl, rfl, rfl, rfl, trivial⟩) (ihS (by omega) J e (fun s hs => ?_))
              rw [f s hs]
              by_cases z : s = S + 1
              · rw [if_pos z, if_pos (by omega), z, fw]
                exact congrArg nI gq_63.symm
              · rw [if_neg z]
                by_cases z2 : S + 1 < s
                · rw [if_pos z2, if_pos (by omega)]
                · rw [if_neg z2, if_neg (by omega)]
            · have hy64 : y < 64 := Nat.lt_of_le_of_lt (hym ▸ Nat.and_le_right) hm
              have hyS := sub_as hym
              have hxl := sub_xl (S + 1) (by omega) y hy64 hyS hy0
              have hg99 : gq (fw tog (abT op) d) tog (S + 1) ((S + 1) &&& abT op d) (63 - y) ≤ 99 := Nat.le_trans (gq_le0 _) (h99 _)
              have hx99 := h99 ((S + 1) ^^^ y)
              have hty : J 1048 y = jb (tog y) := (e 1048 y (by decide)).trans (htog y hy64)
              have hnx := gq_nx (F := fw tog (abT op) d) (tog := tog) (S := S + 1) hm hy64 hym (by omega)
              have hle : (y - 1) &&& ((S + 1) &&& abT op d) ≤ y - 1 := Nat.and_le_left
              have hnm : ((y - 1) &&& ((S + 1) &&& abT op d)) &&& ((S + 1) &&& abT op d) = (y - 1) &&& ((S + 1) &&& abT op d) := by rw [Nat.and_assoc, Nat.and_self]
              refine jx_iload dX4_fewestEbbs_63 rfl ?_
              refine jx_ifN_le (a := y) 121 dX4_fewestEbbs_65 (by decide) (by omega) (fun h65 => ?_) (fun h65 => ?_)
              · exact absurd h65 hy0
              · refine jx_aload_n dX4_fewestEbbs_68 rfl ?_
                refine jx_getR dX4_fewestEbbs_69 flX4_15 rfl rfl (hR _ _ _ rfl) ?_
                refine jx_iload dX4_fewestEbbs_72 rfl ?_
                refine jx_zaldE (y) dX4_fewestEbbs_74 rfl (rfl) (by omega) (by omega) (hty) ?_
                refine jx_ifB_eq 107 dX4_fewestEbbs_75 (by decide) (fun h75 => ?_) (fun h75 => ?_)
                · skip
                  refine jx_iload dX4_fewestEbbs_107 rfl ?_
                  refine jx_iconst (v := 1) dX4_fewestEbbs_109 (by decide) ?_
                  refine jx_isubE (z := nI (y - 1)) dX4_fewestEbbs_110 (pk_sub (a := y) (b := 1) (by omega)) ?_
                  refine jx_iload dX4_fewestEbbs_111 rfl ?_
                  refine jx_iandE (z := nI ((y - 1) &&& (S + 1))) dX4_fewestEbbs_113 (and64 _ (by omega) _ (by omega)) ?_
                  refine jx_iload_n dX4_fewestEbbs_114 rfl ?_
                  refine jx_iandE (z := nI ((y - 1) &&& ((S + 1) &&& abT op d))) dX4_fewestEbbs_115 ((and64 _ (Nat.lt_of_le_of_lt Nat.and_le_left (by omega)) _ hal).trans (by rw [Nat.and_assoc])) ?_
                  refine jx_istore dX4_fewestEbbs_116 (by decide) ?_
                  refine jx_goto 63 dX4_fewestEbbs_118 (by decide) ?_
                  refine jx_ls (by exact ⟨rfl, rfl, rfl, rfl, rfl, rfl, trivial⟩) (ihN ((y - 1) &&& ((S + 1) &&& abT op d)) (by omega) hnm J e (fun s hs => ?_))
                  rw [f s hs]
                  by_cases z : s = S + 1
                  · rw [if_pos z, if_pos z, hnx, gq_z hy64 (fun q => by have q2 := q.2.2; rw [h75] at q2; cases q2)]
                  · rw [if_neg z, if_neg z]
                · skip
                  refine jx_aload_n dX4_fewestEbbs_78 rfl ?_
                  refine jx_getR dX4_fewestEbbs_79 flX4_19 rfl rfl (hR _ _ _ rfl) ?_
                  refine jx_iload dX4_fewestEbbs_82 rfl ?_
                  refine jx_aload_n dX4_fewestEbbs_84 rfl ?_
                  refine jx_getR dX4_fewestEbbs_85 flX4_19 rfl rfl (hR _ _ _ rfl) ?_
                  refine jx_iload dX4_fewestEbbs_88 rfl ?_
                  refine jx_ialdE (S + 1) dX4_fewestEbbs_90 rfl (rfl) (by omega) (by omega) ((f (S + 1) hSE).trans (by rw [if_pos rfl])) ?_
                  refine jx_aload_n dX4_fewestEbbs_91 rfl ?_
                  refine jx_getR dX4_fewestEbbs_92 flX4_19 rfl rfl (hR _ _ _ rfl) ?_
                  refine jx_iload dX4_fewestEbbs_95 rfl ?_
                  refine jx_iload dX4_fewestEbbs_97 rfl ?_
                  refine jx_ixorE (z := nI ((S + 1) ^^^ y)) dX4_fewestEbbs_99 (xr64 _ (by omega) _ hy64) ?_
                  refine jx_ialdE ((S + 1) ^^^ y) dX4_fewestEbbs_100 rfl (rfl) (by omega) (by omega) ((f ((S + 1) ^^^ y) (by omega)).trans (by rw [if_neg (by omega), if_neg (by omega)])) ?_
                  refine jx_iconst (v := 1) dX4_fewestEbbs_101 (by decide) ?_
                  refine jx_iaddE (z := nI ((fw tog (abT op) d ((S + 1) ^^^ y)) + 1)) dX4_fewestEbbs_102 (nI_add (fw tog (abT op) d ((S + 1) ^^^ y)) 1) ?_
                  refine jx_Si (as := [.int _, .int _]) dX4_fewestEbbs_103 mlX4_93 okJ9_min_7cf53 stJ9_min_7cf53 rfl rfl (by decide) (Nat.le_of_ble_eq_true rfl) (tJ9_min_7cf53 hW _ _ _) ?_
                  rw [nI_min (a := gq (fw tog (abT op) d) tog (S + 1) ((S + 1) &&& abT op d) (63 - y)) (b := fw tog (abT op) d ((S + 1) ^^^ y) + 1) (by omega) (by omega)]
                  refine jx_iastN (S + 1) dX4_fewestEbbs_106 rfl (rfl) (by omega) (by omega) ?_
                  refine jx_iload dX4_fewestEbbs_107 rfl ?_
                  refine jx_iconst (v := 1) dX4_fewestEbbs_109 (by decide) ?_
                  refine jx_isubE (z := nI (y - 1)) dX4_fewestEbbs_110 (pk_sub (a := y) (b := 1) (by omega)) ?_
                  refine jx_iload dX4_fewestEbbs_111 rfl ?_
                  refine jx_iandE (z := nI ((y - 1) &&& (S + 1))) dX4_fewestEbbs_113 (and64 _ (by omega) _ (by omega)) ?_
                  refine jx_iload_n dX4_fewestEbbs_114 rfl ?_
                  refine jx_iandE (z := nI ((y - 1) &&& ((S + 1) &&& abT op d))) dX4_fewestEbbs_115 ((and64 _ (Nat.lt_of_le_of_lt Nat.and_le_left (by omega)) _ hal).trans (by rw [Nat.and_assoc])) ?_
                  refine jx_istore dX4_fewestEbbs_116 (by decide) ?_
                  refine jx_goto 63 dX4_fewestEbbs_118 (by decide) ?_
                  refine jx_ls (by exact ⟨rfl, rfl, rfl, rfl, rfl, rfl, trivial⟩) (ihN ((y - 1) &&& ((S + 1) &&& abT op d)) (by omega) hnm _ (eqx_u e (by decide)) (fun s hs => ?_))
                  by_cases z : s = S + 1
                  · rw [z, upI_s, if_pos rfl, hnx, gq_y hy64 ⟨hy0, hym, h75⟩]
                  · rw [upI_j z, f s hs, if_neg z, if_neg z]
        refine jx_iload dX4_fewestEbbs_48 rfl ?_
        refine jx_ifN_le (a := (S + 1)) 127 dX4_fewestEbbs_50 (by decide) (by omega) (fun h50 => ?_) (fun h50 => ?_)
        · exact absurd h50 (by omega)
        · refine jx_iload_n dX4_fewestEbbs_53 rfl ?_
          refine jx_ifN_eq (a := (abT op d)) 127 dX4_fewestEbbs_54 (by decide) (by omega) (fun h54 => ?_) (fun h54 => ?_)
          · refine jx_ls (by exact ⟨rfl, rfl, rfl, trivial⟩) (key127 hd41 J e (fun s hs => ?_))
            rw [f s hs]
            by_cases z : S + 1 < s
            · rw [if_pos z]
            · rw [if_neg z, fw, gq_m0 (by rw [h54, Nat.and_zero]) (Nat.le_refl _)]
          · refine jx_iload dX4_fewestEbbs_57 rfl ?_
            refine jx_iload_n dX4_fewestEbbs_59 rfl ?_
            refine jx_iandE (z := nI ((S + 1) &&& abT op d)) dX4_fewestEbbs_60 (and64 _ (by omega) _ hal) ?_
            refine jx_istore dX4_fewestEbbs_61 (by decide) ?_
            refine jx_ls (by exact ⟨rfl, rfl, rfl, rfl, rfl, rfl, trivial⟩) (key63 h54 _ _ (Nat.le_refl _) (Nat.and_self _) J e (fun s hs => ?_))
            rw [f s hs]
            by_cases z : s = S + 1
            · rw [if_pos z, if_neg (by omega), z]
              refine congrArg nI ?_
              rw [gq_skip (i := 0) _ (Nat.zero_le _) (by omega) (fun x h1 h2 q => ?_)]
              · rfl
              · have q2 : x &&& ((S + 1) &&& abT op d) ≤ (S + 1) &&& abT op d := Nat.and_le_right
                rw [q.2.1] at q2
                omega
            · rw [if_neg z]
    refine jx_iload_n dX4_fewestEbbs_33 rfl ?_
    refine jx_bipush (v := 41) dX4_fewestEbbs_34 (by decide) ?_
    refine jx_icmpN_ge (a := d) (b := 41) 133 dX4_fewestEbbs_36 (by decide) (by omega) (by omega) (fun h36 => ?_) (fun h36 => ?_)
    · refine jx_aload_n dX4_fewestEbbs_133 rfl ?_
      refine jx_getR dX4_fewestEbbs_134 flX4_19 rfl rfl (hR _ _ _ rfl) ?_
      refine jx_iload_n dX4_fewestEbbs_137 rfl ?_
      refine jx_ialdE (2 ^ np - 1) dX4_fewestEbbs_138 rfl (rfl) (by omega) (by omega) ((f0 (2 ^ np - 1) (Nat.le_refl _)).trans (by rw [show d = 41 by omega])) ?_
      refine jx_bipush (v := 99) dX4_fewestEbbs_139 (by decide) ?_
      refine jx_Si (as := [.int _, .int _]) dX4_fewestEbbs_141 mlX4_93 okJ9_min_7cf53 stJ9_min_7cf53 rfl rfl (by decide) (Nat.le_of_ble_eq_true rfl) (tJ9_min_7cf53 hW _ _ _) ?_
      rw [show (99 : Int32) = nI 99 from rfl, nI_min (a := fw tog (abT op) 41 (2 ^ np - 1)) (b := 99) (by have := fw_99 (tog := tog) (ab := abT op) 41 (2 ^ np - 1); omega) (by decide)]
      refine jx_iret dX4_fewestEbbs_144 rfl ?_
      exact ⟨_, rfl, by rw [Nat.min_eq_left (fw_99 _ _)], J0, rfl, e0⟩
    · have hn2 : J0 h 3 = nI np := (e0 h 3 (by simp; omega)).trans hn
      refine jx_aload_n dX4_fewestEbbs_39 rfl ?_
      refine jx_iload_n dX4_fewestEbbs_40 rfl ?_
      refine jx_Vi (as := [.int _]) dX4_fewestEbbs_41 mlX4_90 okX4_partiesOpenOn viX4_partiesOpenOn rfl rfl rfl rfl rfl (by decide) (Nat.le_of_ble_eq_true rfl) (tX4_partiesOpenOn hW hR hh hRi hn2 hn6 hop (by omega)) ?_
      rw [hab d]
      refine jx_istore_n dX4_fewestEbbs_44 rfl (by decide) ?_
      refine jx_iload_n dX4_fewestEbbs_45 rfl ?_
      refine jx_istore dX4_fewestEbbs_46 (by decide) ?_
      refine jx_ls (by exact ⟨rfl, rfl, rfl, rfl, rfl, trivial⟩) (key48 (by omega) _ (Nat.le_refl _) J0 e0 (fun s hs => ?_))
      rw [f0 s hs, if_neg (by omega)]
  rcases hh with rfl | rfl
  all_goals
    refine jx_iconst (v := 1) dX4_fewestEbbs_0 (by decide) ?_
    refine jx_aload_n dX4_fewestEbbs_1 rfl ?_
    refine jx_getR dX4_fewestEbbs_2 flX4_26 rfl rfl (hR _ _ _ rfl) ?_
    refine jx_getR dX4_fewestEbbs_5 flX4_30 rfl rfl hRi ?_
    refine jx_getIE dX4_fewestEbbs_8 flX4_36 rfl rfl (hn) ?_
    refine jx_ishl dX4_fewestEbbs_11 ?_
    refine jx_iconst (v := 1) dX4_fewestEbbs_12 (by decide) ?_
    refine jx_isubE (z := nI (2 ^ np - 1)) dX4_fewestEbbs_13 ((ini_l np hn6).1) ?_
    refine jx_istore_n dX4_fewestEbbs_14 rfl (by decide) ?_
    refine jx_aload_n dX4_fewestEbbs_15 rfl ?_
    refine jx_getR dX4_fewestEbbs_16 flX4_19 rfl rfl (hR _ _ _ rfl) ?_
    refine jx_bipush (v := 99) dX4_fewestEbbs_19 (by decide) ?_
    refine jx_Sv (as := [.ref _, .int _]) dX4_fewestEbbs_21 mlX4_84 okJ7_fill_53178 stJ7_fill_53178 rfl rfl (by decide) (Nat.le_of_ble_eq_true rfl) (tJ7_fill_53178 hW (h := 64) _ rfl (by decide)) ?_
    refine jx_aload_n dX4_fewestEbbs_24 rfl ?_
    refine jx_getR dX4_fewestEbbs_25 flX4_19 rfl rfl (hR _ _ _ rfl) ?_
    refine jx_iconst (v := 0) dX4_fewestEbbs_28 (by decide) ?_
    refine jx_iconst (v := 0) dX4_fewestEbbs_29 (by decide) ?_
    refine jx_iastN (0) dX4_fewestEbbs_30 rfl (rfl) (by omega) (by omega) ?_
    refine jx_iconst (v := 0) dX4_fewestEbbs_31 (by decide) ?_
    refine jx_istore_n dX4_fewestEbbs_32 rfl (by decide) ?_
    refine jx_ls (by exact ⟨rfl, rfl, rfl, trivial⟩) (key33 0 (Nat.zero_le _) _ (eqx_u (fun b j hb => ?_) (by decide)) (fun s hs => ?_))
    · unfold fl
      exact if_neg (fun q => hb (by rw [q.1]; decide))
    · by_cases z : s = 0
      · rw [z, upI_s, fw, if_pos rfl]; rfl
      · rw [upI_j z, fw, if_neg z]
        unfold fl
        rw [if_pos ⟨rfl, by omega⟩]; rfl
end BW1
