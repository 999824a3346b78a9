/-! THE CLASS: the plan of burials -/
theorem burR_lt {T : Nat → Nat → Int32} {W H np len : Nat} {y : Nat × (Nat → Nat)} (h : burR T W H np len = some y) : y.1 ≤ np := by
  unfold burR at h
  cases hf : fnd (burG T W H np len) (np + 1) with
  | none => rw [hf] at h; cases h
  | some q =>
    rw [hf] at h
    dsimp only at h
    cases hb : bry T W H len np 0 q (fun _ => 0) (fun _ => 0) with
    | none => rw [hb] at h; cases h
    | some r =>
      rw [hb] at h
      cases h
      have := fnd_lt hf
      show q ≤ np
      omega
section BW3
variable {w : jWD} {l : Launch} {n : Nat} {I : Nat → Nat → Int32} {L : Nat → Nat → Int64} {R : Nat → Nat → Option Nat}
theorem eqx_D {l : List Nat} {I J : Nat → Nat → Int32} (h : eqx l I J) (hl : ∀ b ∈ l, ∀ j, scD b j = true) : eqD I J := fun b j hb => h b j (fun q => by rw [hl b q j] at hb; cases hb)
theorem CF_D {I J : Nat → Nat → Int32} {L M : Nat → Nat → Int64} {h : Nat} {T : Nat → Nat → Int32} {W H np len : Nat} (hc : CF I L R h T W H np len) (e1 : ∀ b j, 1008 ≤ b → b ≤ 1042 → J b j = I b j) (e2 : ∀ b j, 1008 ≤ b → b ≤ 1040 → M b j = L b j) : CF J M R h T W H np len := CF_o hc (fun b j h1 h2 _ _ _ => e1 b j h1 h2) e2

set_option maxHeartbeats 1000000 in
set_option maxRecDepth 20000 in
theorem tX4_plan (hW : jWok w l) (hR : RS R) {h : Nat} {T : Nat → Nat → Int32} {W H np len : Nat} (hC : CF I L R h T W H np len) (hQ : QS T np) : jRi w l mX4_plan 7 [.ref 1046] (n, shE, I, L, R) (fun r t => r = burV (burR T W H np len) ∧ ∃ J M, t = (n, shE, J, M, R) ∧ eqD I J ∧ eqDL L M ∧ CF J M R h T W H np len ∧ ∀ y, burR T W H np len = some y → ∀ k, k < np → J 1050 k = nI (y.2 k)) := by
  refine jRi_of hW (by decide) rfl (Nat.le_of_ble_eq_true rfl) ?_
  have hC0 := hC
  obtain ⟨⟨hh, hRi⟩, -, hRI, -, -, -⟩ := hC
  have hn6 := hRI.2.2.2.2.1.2
  have hwt := hRI.2.2.2.1.2.2
  have hwt2 := hwt.2
  have k99 : fwE T np (opT T W H np len) ≤ 99 := fw_99 41 _
  have key118 : ∀ res : Nat → Nat, burR T W H np len = some (fwE T np (opT T W H np len), res) → (∀ k, k < np → RV T W H len res k) → dyN res np = fwE T np (opT T W H np len) → fwE T np (opT T W H np len) < 99 → (∀ a, (∀ k, k < np → RV T W H len a k) → dyN a np ≤ fwE T np (opT T W H np len) → ∀ k, k < np → (∀ j, j < k → a j = res j) → res k ≤ a k) → ∀ p, p ≤ np → ∀ J M, eqD I J → eqDL L M → CF J M R h T W H np len → (∀ q, q < np → M 1047 q = bs (fun e => if q < p then decide (e = res q) else opT T W H np len q e)) → (∀ s, s < 64 → J 1048 s = jb (togT T np s)) → (∀ k, k < p → J 1050 k = nI (res k)) → jWP w l mX4_plan 7 0 0 (fun v t => ∃ r, v = some (.int r) ∧ (r = burV (burR T W H np len) ∧ ∃ J M, t = (n, shE, J, M, R) ∧ eqD I J ∧ eqDL L M ∧ CF J M R h T W H np len ∧ ∀ y, burR T W H np len = some y → ∀ k, k < np → J 1050 k = nI (y.2 k))) (fun _ _ => False) 118 [(0, .ref 1046), (1, .ref h), (2, .int (nI (fwE T np (opT T W H np len)))), (3, .int (nI p))] [] (n, shE, J, M, R) := by
    intro res hb hr hk h99 hmin
    refine jdown _ (fun p hp ih => ?_)
    intro J M e1 e2 hC hop htog hpl
    have hI := hC.2.1
    rcases hh with rfl | rfl
    all_goals
      refine jx_iload_n dX4_plan_118 rfl ?_
      refine jx_aload_n dX4_plan_119 rfl ?_
      refine jx_getIE dX4_plan_120 flX4_36 rfl rfl (hI.2.2.1.1) ?_
      refine jx_icmpN_ge (a := p) (b := np) 144 dX4_plan_123 (by decide) (by omega) (by omega) (fun h123 => ?_) (fun h123 => ?_)
      · refine jx_iload_n dX4_plan_144 rfl ?_
        refine jx_iret dX4_plan_145 rfl ?_
        have hpn : p = np := by omega
        subst hpn
        exact ⟨_, rfl, by rw [hb]; rfl, J, M, rfl, e1, e2, hC, fun y hy => by rw [hb] at hy; cases hy; exact hpl⟩
      · have h123 : p < np := by omega
        refine jx_aload_n dX4_plan_126 rfl ?_
        refine jx_getR dX4_plan_127 flX4_23 rfl rfl (hR _ _ _ rfl) ?_
        refine jx_iload_n dX4_plan_130 rfl ?_
        refine jx_aload_n dX4_plan_131 rfl ?_
        refine jx_iload_n dX4_plan_132 rfl ?_
        refine jx_iload_n dX4_plan_133 rfl ?_
        refine jx_VRi (as := [.int _, .int _]) dX4_plan_134 mlX4_65 okX4_firstDay viX4_firstDay rfl rfl rfl rfl rfl (by decide) (Nat.le_of_ble_eq_true rfl) (tX4_firstDay (res := res) (p := p) hW hR hC h123 hQ hop htog hr hk h99 hmin) (fun x134 t134 hq134 => ?_)
        obtain ⟨rfl, J2, rfl, f1⟩ := hq134
        refine jx_iastN (p) dX4_plan_137 rfl (rfl) (by omega) (by omega) ?_
        refine jx_iinc dX4_plan_138 rfl (v := nI (p + 1)) (nI_1 _) (by decide) ?_
        refine jx_goto 118 dX4_plan_141 (by decide) ?_
        refine jx_ls (by exact ⟨rfl, rfl, rfl, rfl, trivial⟩) (ih (by omega) _ _ (eqD_u (eqD_t e1 (eqx_D f1 (by intro b hb j; simp at hb; subst hb; rfl))) rfl) (eqDL_u e2 rfl) (CF_D hC (fun b j _ h2 => (upI_nea (by omega)).trans (f1 b j (by simp; omega))) (fun b j _ h2 => upL_nea (by omega))) (fun q hq => ?_) (fun s hs => ?_) (fun k hk2 => ?_))
        · by_cases z : q = p
          · rw [z, upL_s]
            exact bs_c (fun c _ => by rw [if_pos (by omega)])
          · rw [upL_j z, hop q hq]
            refine bs_c (fun c _ => ?_)
            by_cases y : q < p
            · rw [if_pos y, if_pos (by omega)]
            · rw [if_neg y, if_neg (by omega)]
        · rw [upI_nea (by decide), f1 1048 s (by decide)]; exact htog s hs
        · by_cases z : k = p
          · rw [z, upI_s]
          · rw [upI_j z, f1 1050 k (by decide)]; exact hpl k (by omega)
  have key10 : ∀ p, p ≤ np → ∀ J M, eqD I J → eqDL L M → CF J M R h T W H np len → (∀ q, q < p → M 1047 q = bs (opT T W H np len q)) → jWP w l mX4_plan 7 0 0 (fun v t => ∃ r, v = some (.int r) ∧ (r = burV (burR T W H np len) ∧ ∃ J M, t = (n, shE, J, M, R) ∧ eqD I J ∧ eqDL L M ∧ CF J M R h T W H np len ∧ ∀ y, burR T W H np len = some y → ∀ k, k < np → J 1050 k = nI (y.2 k))) (fun _ _ => False) 10 [(0, .ref 1046), (1, .ref h), (2, .int (nI p))] [] (n, shE, J, M, R) := by
    refine jdown _ (fun p hp ih => ?_)
    intro J0 M0 e10 e20 hC0' hop0
    have key38 : p < np → ∀ day, day ≤ bEnd T p + 1 → cN (T 1080 p) ≤ day → ∀ J M, eqD I J → eqDL L M → CF J M R h T W H np len → (∀ q, q < p → M 1047 q = bs (opT T W H np len q)) → M 1047 p = bs (fun e => decide (e < day) && opT T W H np len p e) → jWP w l mX4_plan 7 0 0 (fun v t => ∃ r, v = some (.int r) ∧ (r = burV (burR T W H np len) ∧ ∃ J M, t = (n, shE, J, M, R) ∧ eqD I J ∧ eqDL L M ∧ CF J M R h T W H np len ∧ ∀ y, burR T W H np len = some y → ∀ k, k < np → J 1050 k = nI (y.2 k))) (fun _ _ => False) 38 [(0, .ref 1046), (1, .ref h), (2, .int (nI p)), (3, .int (nI (cN (T 1080 p)))), (4, .int (nI day))] [] (n, shE, J, M, R) := by
      intro hpn
      have hdk := (hRI.2.2.2.2.2.1 p hpn).2.2.2.2.1.2
      have hbe : bEnd T p = if cN (T 1080 p) + cN (T 1072 9) < 40 then cN (T 1080 p) + cN (T 1072 9) else 40 := rfl
      have hb40 := bEnd_40 (T := T) (p := p)
      refine jdown _ (fun day hday ih2 => ?_)
      intro hdd J M e1 e2 hC hop hday2
      have hI := hC.2.1
      have key93 : day = bEnd T p + 1 → jWP w l mX4_plan 7 0 0 (fun v t => ∃ r, v = some (.int r) ∧ (r = burV (burR T W H np len) ∧ ∃ J M, t = (n, shE, J, M, R) ∧ eqD I J ∧ eqDL L M ∧ CF J M R h T W H np len ∧ ∀ y, burR T W H np len = some y → ∀ k, k < np → J 1050 k = nI (y.2 k))) (fun _ _ => False) 93 [(0, .ref 1046), (1, .ref h), (2, .int (nI p))] [] (n, shE, J, M, R) := by
        intro hde
        refine jx_iinc dX4_plan_93 rfl (v := nI (p + 1)) (nI_1 _) (by decide) ?_
        refine jx_goto 10 dX4_plan_96 (by decide) ?_
        refine jx_ls (by exact ⟨rfl, rfl, rfl, trivial⟩) (ih (by omega) J M e1 e2 hC (fun q hq => ?_))
        by_cases z : q = p
        · rw [z, hday2]
          refine bs_c (fun c _ => ?_)
          by_cases y : c < day
          · rw [decide_eq_true y, Bool.true_and]
          · rw [decide_eq_false y, Bool.false_and]
            unfold opT
            rw [decide_eq_false (show ¬ c ≤ bEnd T p by omega), Bool.and_false, Bool.and_false]
        · exact hop q (by omega)
      rcases hh with rfl | rfl
      all_goals
        refine jx_iload dX4_plan_38 rfl ?_
        refine jx_iload_n dX4_plan_40 rfl ?_
        refine jx_aload_n dX4_plan_41 rfl ?_
        refine jx_getIE dX4_plan_42 flX4_51 rfl rfl (hI.2.2.2.1.2.2.2.trans hwt.1) ?_
        refine jx_iaddE (z := nI ((cN (T 1080 p)) + (cN (T 1072 9)))) dX4_plan_45 (nI_add (cN (T 1080 p)) (cN (T 1072 9))) ?_
        refine jx_icmpN_gt (a := day) (b := ((cN (T 1080 p)) + (cN (T 1072 9)))) 93 dX4_plan_46 (by decide) (by omega) (by omega) (fun h46 => ?_) (fun h46 => ?_)
        · exact jx_ls (by exact ⟨rfl, rfl, rfl, trivial⟩) (key93 (by rw [hbe] at hday ⊢; split at hday <;> split <;> omega))
        · refine jx_iload dX4_plan_49 rfl ?_
          refine jx_bipush (v := 41) dX4_plan_51 (by decide) ?_
          refine jx_icmpN_ge (a := day) (b := 41) 93 dX4_plan_53 (by decide) (by omega) (by omega) (fun h53 => ?_) (fun h53 => ?_)
          · exact jx_ls (by exact ⟨rfl, rfl, rfl, trivial⟩) (key93 (by omega))
          · have hdb : day ≤ bEnd T p := by rw [hbe]; split <;> omega
            refine jx_aload_n dX4_plan_56 rfl ?_
            refine jx_getR dX4_plan_57 flX4_9 rfl rfl (hR _ _ _ rfl) ?_
            refine jx_iload_n dX4_plan_60 rfl ?_
            refine jx_dup2 dX4_plan_61 rfl rfl ?_
            refine jx_laldE (p) dX4_plan_62 rfl (rfl) (by omega) (by omega) (hday2) ?_
            refine jx_aload_n dX4_plan_63 rfl ?_
            refine jx_getR dX4_plan_64 flX4_26 rfl rfl (hR _ _ _ rfl) ?_
            refine jx_iload_n dX4_plan_67 rfl ?_
            refine jx_iload dX4_plan_68 rfl ?_
            refine jx_VRi (as := [.int _, .int _]) dX4_plan_70 mlX4_54 okX0_soonest viX0_soonest rfl rfl rfl rfl rfl (by decide) (Nat.le_of_ble_eq_true rfl) (tX0_soonest hW hR hC hpn (by omega)) (fun x70 t70 hq70 => ?_)
            obtain ⟨rfl, J2, M2, rfl, f1, f2, hC2⟩ := hq70
            have ha1 := arr_le T W H len day (T 1072 7) p 0 0
            have hm1 := aI_m (v := arr T W H len day (T 1072 7) p 0 0) (by omega)
            refine jx_iconst (v := -1) dX4_plan_73 (by decide) ?_
            refine jx_icmp_ne 81 dX4_plan_74 (by decide) (fun h74 => ?_) (fun h74 => ?_)
            · skip
              refine jx_lconst (v := 1) dX4_plan_81 (by decide) ?_
              refine jx_iload dX4_plan_82 rfl ?_
              refine jx_lshl dX4_plan_84 ?_
              refine jx_lor dX4_plan_85 ?_
              refine jx_lastN (p) dX4_plan_86 rfl (rfl) (by omega) (by omega) ?_
              refine jx_iinc dX4_plan_87 rfl (v := nI (day + 1)) (nI_1 _) (by decide) ?_
              refine jx_goto 38 dX4_plan_90 (by decide) ?_
              refine jx_ls (by exact ⟨rfl, rfl, rfl, rfl, rfl, trivial⟩) (ih2 (by omega) (by omega) J2 _ (eqD_t e1 (eqC_D f1)) (eqDL_u (eqDL_t e2 (eqCL_D f2)) rfl) (CF_D hC2 (fun _ _ _ _ => rfl) (fun b j _ h2 => upL_nea (by omega))) (fun q hq => ?_) ?_)
              · rw [upL_j (by omega), f2 1047 q rfl]; exact hop q hq
              · rw [upL_s, bs_1 (by omega), bs_or]
                refine bs_c (fun c _ => ?_)
                by_cases z : c = day
                · rw [z, decide_eq_false (Nat.lt_irrefl day), decide_eq_true (Nat.lt_succ_self day), decide_eq_true rfl, Bool.true_and]
                  unfold opT cnD sn0
                  rw [decide_eq_false (show ¬ arr T W H len day (T 1072 7) p 0 0 = 1000 from fun q => h74 (hm1.mpr q)), decide_eq_true hpn, decide_eq_true hdd, decide_eq_true (show day ≤ bEnd T p by omega)]
                  rfl
                · rw [decide_eq_decide.mpr (show c < day ↔ c < day + 1 by omega), decide_eq_false z, Bool.or_false]
            · skip
              refine jx_lconst (v := 0) dX4_plan_77 (by decide) ?_
              refine jx_goto 85 dX4_plan_78 (by decide) ?_
              refine jx_lor dX4_plan_85 ?_
              refine jx_lastN (p) dX4_plan_86 rfl (rfl) (by omega) (by omega) ?_
              refine jx_iinc dX4_plan_87 rfl (v := nI (day + 1)) (nI_1 _) (by decide) ?_
              refine jx_goto 38 dX4_plan_90 (by decide) ?_
              refine jx_ls (by exact ⟨rfl, rfl, rfl, rfl, rfl, trivial⟩) (ih2 (by omega) (by omega) J2 _ (eqD_t e1 (eqC_D f1)) (eqDL_u (eqDL_t e2 (eqCL_D f2)) rfl) (CF_D hC2 (fun _ _ _ _ => rfl) (fun b j _ h2 => upL_nea (by omega))) (fun q hq => ?_) ?_)
              · rw [upL_j (by omega), f2 1047 q rfl]; exact hop q hq
              · rw [upL_s, show bs (fun e => decide (e < day) && opT T W H np len p e) ||| 0 = bs (fun e => decide (e < day) && opT T W H np len p e) from Int64.or_zero]
                refine bs_c (fun c _ => ?_)
                by_cases z : c = day
                · rw [z, decide_eq_false (Nat.lt_irrefl day), decide_eq_true (Nat.lt_succ_self day), Bool.true_and]
                  unfold opT cnD sn0
                  rw [decide_eq_true (show arr T W H len day (T 1072 7) p 0 0 = 1000 from hm1.mp h74)]
                  simp
                · rw [decide_eq_decide.mpr (show c < day ↔ c < day + 1 by omega)]
    have hI := hC0'.2.1
    rcases hh with rfl | rfl
    all_goals
      refine jx_iload_n dX4_plan_10 rfl ?_
      refine jx_aload_n dX4_plan_11 rfl ?_
      refine jx_getIE dX4_plan_12 flX4_36 rfl rfl (hI.2.2.1.1) ?_
      refine jx_icmpN_ge (a := p) (b := np) 99 dX4_plan_15 (by decide) (by omega) (by omega) (fun h15 => ?_) (fun h15 => ?_)
      · refine jx_aload_n dX4_plan_99 rfl ?_
        refine jx_VRv (as := []) dX4_plan_100 mlX4_58 okX4_findTogether viX4_findTogether rfl rfl rfl rfl rfl (by decide) (Nat.le_of_ble_eq_true rfl) (tX4_findTogether hW hR hC0') (fun t100 hq100 => ?_)
        obtain ⟨J1, rfl, g1, g2⟩ := hq100
        have hC1 : CF J1 M0 R _ T W H np len := CF_D hC0' (fun b j _ h2 => g1 b j (by simp; omega)) (fun _ _ _ _ => rfl)
        have hpn : p = np := by omega
        refine jx_aload_n dX4_plan_103 rfl ?_
        refine jx_VRi (as := []) dX4_plan_104 mlX4_61 okX4_fewestEbbs viX4_fewestEbbs rfl rfl rfl rfl rfl (by decide) (Nat.le_of_ble_eq_true rfl) (tX4_fewestEbbs (op := opT T W H np len) (tog := togT T np) hW hR (by decide) hRi hC1.2.1.2.2.1.1 hn6 (fun q hq => hop0 q (by omega)) (fun q hq d => opT_0 hq) g2) (fun x104 t104 hq104 => ?_)
        obtain ⟨rfl, J2, rfl, g3⟩ := hq104
        have hC2 : CF J2 M0 R _ T W H np len := CF_D hC1 (fun b j _ h2 => g3 b j (by simp; omega)) (fun _ _ _ _ => rfl)
        refine jx_istore_n dX4_plan_107 rfl (by decide) ?_
        refine jx_iload_n dX4_plan_108 rfl ?_
        refine jx_bipush (v := 99) dX4_plan_109 (by decide) ?_
        refine jx_icmpN_ne (a := (fwE T np (opT T W H np len))) (b := 99) 116 dX4_plan_111 (by decide) (by omega) (by omega) (fun h111 => ?_) (fun h111 => ?_)
        · obtain ⟨res, b1, b2, b3, b4⟩ := bur_s (W := W) (H := H) (len := len) hn6 hQ (by omega)
          refine jx_iconst (v := 0) dX4_plan_116 (by decide) ?_
          refine jx_istore_n dX4_plan_117 rfl (by decide) ?_
          refine jx_ls (by exact ⟨rfl, rfl, rfl, rfl, trivial⟩) (key118 res b1 b2 b3 (by omega) b4 0 (Nat.zero_le _) J2 M0 (eqD_t e10 (eqD_t (eqx_D g1 (by intro b hb j; simp at hb; subst hb; rfl)) (eqx_D g3 (by intro b hb j; simp at hb; subst hb; rfl)))) e20 hC2 (fun q hq => ?_) (fun s hs => (g3 1048 s (by decide)).trans (g2 s hs)) (fun k hk => absurd hk (Nat.not_lt_zero k)))
          rw [hop0 q (by omega)]
          exact bs_c (fun c _ => by rw [if_neg (Nat.not_lt_zero q)])
        · refine jx_iconst (v := -1) dX4_plan_114 (by decide) ?_
          refine jx_iret dX4_plan_115 rfl ?_
          have hbn := bur_n (W := W) (H := H) (len := len) hn6 hQ (by omega)
          exact ⟨_, rfl, by rw [hbn]; rfl, J2, M0, rfl, eqD_t e10 (eqD_t (eqx_D g1 (by intro b hb j; simp at hb; subst hb; rfl)) (eqx_D g3 (by intro b hb j; simp at hb; subst hb; rfl))), e20, hC2, fun y hy => by rw [hbn] at hy; cases hy⟩
      · have h15 : p < np := by omega
        have hp6 : p < 6 := by omega
        have hdk := (hRI.2.2.2.2.2.1 p h15).2.2.2.2.1
        have hbe : bEnd T p = if cN (T 1080 p) + cN (T 1072 9) < 40 then cN (T 1080 p) + cN (T 1072 9) else 40 := rfl
        refine jx_aload_n dX4_plan_18 rfl ?_
        refine jx_getR dX4_plan_19 flX4_42 rfl rfl (hR _ _ _ rfl) ?_
        refine jx_iload_n dX4_plan_22 rfl ?_
        refine jx_aald5N (p) dX4_plan_23 rfl (rfl) (by omega) (by decide) (hR _ _ _ (by first | exact rtPa _ hp6 | exact rtPb _ hp6)) ?_
        refine jx_getIE dX4_plan_24 flX4_46 (by first | exact shPa _ hp6 | exact shPb _ hp6) rfl ((hI.2.2.1.2 p 4 h15 (by decide)).trans hdk.1) ?_
        refine jx_istore_n dX4_plan_27 rfl (by decide) ?_
        refine jx_aload_n dX4_plan_28 rfl ?_
        refine jx_getR dX4_plan_29 flX4_9 rfl rfl (hR _ _ _ rfl) ?_
        refine jx_iload_n dX4_plan_32 rfl ?_
        refine jx_lconst (v := 0) dX4_plan_33 (by decide) ?_
        refine jx_lastN (p) dX4_plan_34 rfl (rfl) (by omega) (by omega) ?_
        refine jx_iload_n dX4_plan_35 rfl ?_
        refine jx_istore dX4_plan_36 (by decide) ?_
        refine jx_ls (by exact ⟨rfl, rfl, rfl, rfl, rfl, trivial⟩) (key38 h15 (cN (T 1080 p)) (by have := hdk.2; rw [hbe]; split <;> omega) (Nat.le_refl _) J0 _ e10 (eqDL_u e20 rfl) (CF_D hC0' (fun _ _ _ _ => rfl) (fun b j _ h2 => upL_nea (by omega))) (fun q hq => ?_) ?_)
        · rw [upL_j (by omega)]; exact hop0 q hq
        · rw [upL_s]
          refine (bs_f (fun c _ => ?_)).symm
          by_cases y : c < cN (T 1080 p)
          · unfold opT cnD
            rw [decide_eq_false (show ¬ cN (T 1080 p) ≤ c by omega)]
            simp
          · rw [decide_eq_false y, Bool.false_and]
  refine jx_aload_n dX4_plan_0 rfl ?_
  refine jx_getR dX4_plan_1 flX4_26 rfl rfl (hR _ _ _ rfl) ?_
  refine jx_getR dX4_plan_4 flX4_30 rfl rfl hRi ?_
  refine jx_astore_n dX4_plan_7 rfl (by decide) ?_
  refine jx_iconst (v := 0) dX4_plan_8 (by decide) ?_
  refine jx_istore_n dX4_plan_9 rfl (by decide) ?_
  exact jx_ls (by exact ⟨rfl, rfl, rfl, trivial⟩) (key10 0 (Nat.zero_le _) I L (eqD_r I) (eqDL_r L) hC0 (fun q hq => absurd hq (Nat.not_lt_zero q)))
set_option maxHeartbeats 1000000 in
set_option maxRecDepth 20000 in
theorem tX4_plannedDay (hW : jWok w l) (hR : RS R) {p : Nat} (hp : p < 6) : jCD w l mX4_plannedDay 1 [.ref 1046, .int (nI p)] (n, shE, I, L, R) (some (.int (I 1050 p))) (n, shE, I, L, R) := by
  refine jCD_of hW (by decide) rfl (Nat.le_of_ble_eq_true rfl) ?_
  refine jx_aload_n dX4_plannedDay_0 rfl ?_
  refine jx_getR dX4_plannedDay_1 flX4_23 rfl rfl (hR _ _ _ rfl) ?_
  refine jx_iload_n dX4_plannedDay_4 rfl ?_
  refine jx_ialdN (p) dX4_plannedDay_5 rfl (rfl) (by omega) (by omega) ?_
  refine jx_iret dX4_plannedDay_6 rfl ?_
  exact ⟨rfl, rfl⟩
set_option maxHeartbeats 1000000 in
set_option maxRecDepth 20000 in
theorem tX10_burials (hW : jWok w l) (hR : RS R) {h : Nat} {T : Nat → Nat → Int32} {W H np len : Nat} (hX : CX I L R h T W H np len) (hQ : QS T np) : jRi w l mX10_burials 9 [.ref 1000] (n, shE, I, L, R) (fun r t => r = burV (burR T W H np len) ∧ ∃ J M, t = (n, shE, J, M, R) ∧ eqDL L M ∧ CX J M R h T W H np len ∧ (∀ b j, scD b j = false → b ≠ 1003 → ¬ (b = 1000 ∧ j = 15) → J b j = I b j) ∧ (burR T W H np len = none → (∀ j, J 1003 j = I 1003 j) ∧ J 1000 15 = I 1000 15) ∧ ∀ z : Nat × (Nat → Nat), burR T W H np len = some z → J 1000 15 = 1 ∧ ∀ k, k < np → J 1003 k = nI (z.2 k)) := by
  refine jRi_of hW (by decide) rfl (Nat.le_of_ble_eq_true rfl) ?_
  obtain ⟨hC, hRh⟩ := hX
  have hn6 := hC.2.2.1.2.2.2.2.1.2
  refine jx_aload_n dX10_burials_0 rfl ?_
  refine jx_getR dX10_burials_1 flX10_53 rfl rfl (hR _ _ _ rfl) ?_
  refine jx_VRi (as := []) dX10_burials_4 mlX10_303 okX4_plan viX4_plan rfl rfl rfl rfl rfl (by decide) (Nat.le_of_ble_eq_true rfl) (tX4_plan hW hR hC hQ) (fun x4 t4 hq4 => ?_)
  obtain ⟨rfl, J, M, rfl, e1, e2, hC2, hpl⟩ := hq4
  refine jx_istore_n dX10_burials_7 rfl (by decide) ?_
  cases hb : burR T W H np len with
  | none =>
    refine jx_iload_n dX10_burials_8 rfl ?_
    refine jx_iconst (v := -1) dX10_burials_9 (by decide) ?_
    refine jx_icmp_eq 46 dX10_burials_10 (by decide) (fun h10 => ?_) (fun h10 => ?_)
    · refine jx_iload_n dX10_burials_46 rfl ?_
      refine jx_iret dX10_burials_47 rfl ?_
      exact ⟨_, rfl, rfl, J, M, rfl, e2, ⟨hC2, hRh⟩, fun b j hb _ _ => e1 b j hb, fun _ => ⟨fun j => e1 1003 j rfl, e1 1000 15 rfl⟩, fun y hy => (by cases hy)⟩
    · exact absurd rfl h10
  | some y =>
    rw [hb] at hpl
    have key : ∀ p, p ≤ 6 → ∀ K, (∀ b j, b ≠ 1003 → K b j = J b j) → (∀ k, k < p → K 1003 k = J 1050 k) → jWP w l mX10_burials 9 0 0 (fun v t => ∃ r, v = some (.int r) ∧ (r = burV ((some y)) ∧ ∃ J M, t = (n, shE, J, M, R) ∧ eqDL L M ∧ CX J M R h T W H np len ∧ (∀ b j, scD b j = false → b ≠ 1003 → ¬ (b = 1000 ∧ j = 15) → J b j = I b j) ∧ ((some y) = none → (∀ j, J 1003 j = I 1003 j) ∧ J 1000 15 = I 1000 15) ∧ ∀ z : Nat × (Nat → Nat), (some y) = some z → J 1000 15 = 1 ∧ ∀ k, k < np → J 1003 k = nI (z.2 k))) (fun _ _ => False) 15 [(0, .ref 1000), (1, .int (burV (some y))), (2, .int (nI p))] [] (n, shE, K, M, R) := by
      refine jdown _ (fun p hp ih => ?_)
      intro K k1 k2
      refine jx_iload_n dX10_burials_15 rfl ?_
      refine jx_bipush (v := 6) dX10_burials_16 (by decide) ?_
      refine jx_icmpN_ge (a := p) (b := 6) 41 dX10_burials_18 (by decide) (by omega) (by omega) (fun h18 => ?_) (fun h18 => ?_)
      · refine jx_aload_n dX10_burials_41 rfl ?_
        refine jx_iconst (v := 1) dX10_burials_42 (by decide) ?_
        refine jx_putZ dX10_burials_43 flX10_111 rfl rfl (fun r h => by cases h; rfl) (by first | exact Or.inl rfl | exact Or.inr rfl | exact jb_or _) ?_
        refine jx_iload_n dX10_burials_46 rfl ?_
        refine jx_iret dX10_burials_47 rfl ?_
        refine ⟨_, rfl, rfl, _, M, rfl, e2, ⟨CF_D hC2 (fun b j h1 _ => (upI_nea (by omega)).trans (k1 b j (by omega))) (fun _ _ _ _ => rfl), hRh⟩, fun b j hb h3 h4 => ?_, fun q => (by cases q), fun y' hy => ?_⟩
        · rw [upI_ne h4, k1 b j h3]; exact e1 b j hb
        · cases hy
          exact ⟨upI_s, fun k hk => by rw [upI_nea (by decide), k2 k (by omega)]; exact hpl y rfl k hk⟩
      · refine jx_aload_n dX10_burials_21 rfl ?_
        refine jx_getR dX10_burials_22 flX10_17 rfl rfl (hR _ _ _ rfl) ?_
        refine jx_iload_n dX10_burials_25 rfl ?_
        refine jx_aload_n dX10_burials_26 rfl ?_
        refine jx_getR dX10_burials_27 flX10_53 rfl rfl (hR _ _ _ rfl) ?_
        refine jx_iload_n dX10_burials_30 rfl ?_
        refine jx_Vi (as := [.int _]) dX10_burials_31 mlX10_306 okX4_plannedDay viX4_plannedDay rfl rfl rfl rfl rfl (by decide) (Nat.le_of_ble_eq_true rfl) (tX4_plannedDay hW hR (by omega)) ?_
        rw [k1 1050 p (by decide)]
        refine jx_iastN (p) dX10_burials_34 rfl (rfl) (by omega) (by omega) ?_
        refine jx_iinc dX10_burials_35 rfl (v := nI (p + 1)) (nI_1 _) (by decide) ?_
        refine jx_goto 15 dX10_burials_38 (by decide) ?_
        refine jx_ls (by exact ⟨rfl, rfl, rfl, trivial⟩) (ih (by omega) _ (fun b j hb => (upI_nea hb).trans (k1 b j hb)) (fun k hk => ?_))
        by_cases z : k = p
        · rw [z, upI_s]
        · rw [upI_j z]; exact k2 k (by omega)
    refine jx_iload_n dX10_burials_8 rfl ?_
    refine jx_iconst (v := -1) dX10_burials_9 (by decide) ?_
    refine jx_icmp_eq 46 dX10_burials_10 (by decide) (fun h10 => ?_) (fun h10 => ?_)
    · exfalso
      have := congrArg Int32.toInt h10
      have e3 : (nI y.1).toInt = y.1 := nI_toInt (by have := burR_lt hb; omega)
      rw [show burV (some y) = nI y.1 from rfl, e3, show (-1 : Int32).toInt = -1 from rfl] at this
      omega
    · refine jx_iconst (v := 0) dX10_burials_13 (by decide) ?_
      refine jx_istore_n dX10_burials_14 rfl (by decide) ?_
      exact jx_ls (by exact ⟨rfl, rfl, rfl, trivial⟩) (key 0 (Nat.zero_le _) J (fun _ _ _ => rfl) (fun k hk => absurd hk (Nat.not_lt_zero k)))
end BW3
