/-! THE CLASS: the rule reader, a whole rule -/
section CZ12
variable {w : jWD} {l : Launch} {n : Nat} {I J K : Nat → Nat → Int32} {L M : Nat → Nat → Int64} {R : Nat → Nat → Option Nat} {sz : Nat} {tp : Nat → Nat} {x : Nat × Nat × Nat} {h : Nat} {code wt : List Int32} {d nt cp : Nat} {eb nm pd : Bool} {s : Rst}

set_option maxHeartbeats 1000000 in
set_option maxRecDepth 20000 in
theorem tX7_readJoint (hW : jWok w l) (hR : RS R) (hh : h = 1008 ∨ h = 1024) (hRt : R 1006 3 = some (h + 5)) (hx : C3 I sz tp x) (h0 : x.2.1 = 0) (hS : RRc I h (code, wt, d, nt, cp, eb, nm, false)) : jRi w l mX7_readJoint 7 [.ref 1006] (n, shE, I, L, R) (StQ n R sz tp h I L x (rJnt tp sz x (code, wt, d, nt, cp, eb, nm, false))) := by
  refine jRi_of hW (by decide) rfl (Nat.le_of_ble_eq_true rfl) ?_
  obtain ⟨F1, F2, F3, F4, F5, F6⟩ : RF I d nt cp eb nm false := hS.2.2
  have F12 := F1.2.1
  have hd5 : d ≤ 5 := by
    by_cases e6 : d = 6
    · have := (F1.2.2 e6).2; cases this
    · omega
  have F32 := F3.2
  have cq := cp_2 cp F32 d (by omega)
  have c1 := cp_1 cp F32 d (by omega)
  have hr6 := rkS_6 (jnt tp sz x)
  rcases hh with rfl | rfl
  all_goals
    refine jx_aload_n dX7_readJoint_0 rfl ?_
    refine jx_Vi (as := []) dX7_readJoint_1 mlX7_113 okX7_jointOf viX7_jointOf rfl rfl rfl rfl rfl (by decide) (Nat.le_of_ble_eq_true rfl) (tX7_jointOf hW hR hx h0) ?_
    refine jx_istore_n dX7_readJoint_4 rfl (by decide) ?_
    refine jx_iload_n dX7_readJoint_5 rfl ?_
    refine jx_if_ne 18 dX7_readJoint_6 (by decide) (fun h6 => ?_) (fun h6 => ?_)
    · refine jx_iload_n dX7_readJoint_18 rfl ?_
      refine jx_bipush (v := -14) dX7_readJoint_19 (by decide) ?_
      refine jx_icmp_ne 29 dX7_readJoint_21 (by decide) (fun h21 => ?_) (fun h21 => ?_)
      · refine jx_aload_n dX7_readJoint_29 rfl ?_
        refine jx_iload_n dX7_readJoint_30 rfl ?_
        refine jx_Si (as := [.int _]) dX7_readJoint_31 mlX7_120 okX7_rankOfSign stX7_rankOfSign rfl rfl (by decide) (Nat.le_of_ble_eq_true rfl) (tX7_rankOfSign hW _) ?_
        refine jx_VRv (as := [.int _]) dX7_readJoint_34 mlX7_42 okX7_release viX7_release rfl rfl rfl rfl rfl (by decide) (Nat.le_of_ble_eq_true rfl) (tX7_release (r := rkS (jnt tp sz x)) (code := code) (wt := wt) hW hR (by decide) hRt hS.1 hS.2.1 hr6) (fun t34 hq34 => ?_)
        obtain ⟨K2, rfl, a2, a3, f2⟩ := hq34
        refine jx_aload_n dX7_readJoint_37 rfl ?_
        refine jx_iload_n dX7_readJoint_38 rfl ?_
        refine jx_VRv (as := [.int _]) dX7_readJoint_39 mlX7_75 okX7_hold viX7_hold rfl rfl rfl rfl rfl (by decide) (Nat.le_of_ble_eq_true rfl) (tX7_hold hW hR a3) (fun t39 hq39 => ?_)
        obtain ⟨K3, rfl, b3, f3⟩ := hq39
        have g6 : ∀ j, 4 ≤ j → K3 1006 j = I 1006 j := fun j hj => (f3 1006 j (by decide) (fun q => by omega)).trans (f2 1006 j (by decide) (by decide) (fun q => by omega))
        have k3 : eqK _ I K3 := fun b j p1 p2 p3 p4 => (f3 b j p2 (fun q => p1 q.1)).trans (f2 b j p3 p4 (fun q => p1 q.1))
        have b2 := a2.f (J := K3) (fun j => f3 _ j (by decide) (fun q => absurd q.1 (by decide))) (fun j => f3 _ j (by decide) (fun q => absurd q.1 (by decide)))
        refine jx_iload_n dX7_readJoint_42 rfl ?_
        refine jx_bipush (v := -5) dX7_readJoint_43 (by decide) ?_
        refine jx_icmp_eq 54 dX7_readJoint_45 (by decide) (fun h45 => ?_) (fun h45 => ?_)
        · have hT : jnt tp sz x = -5 ∨ jnt tp sz x = -6 := Or.inl h45
          refine jx_aload_n dX7_readJoint_54 rfl ?_
          refine jx_VRv (as := []) dX7_readJoint_55 mlX7_63 okX7_beginTest viX7_beginTest rfl rfl rfl rfl rfl (by decide) (Nat.le_of_ble_eq_true rfl) (tX7_beginTest (d := d) (cp := cp) hW hR ((g6 4 (by decide)).trans F1.1) F12 ((g6 6 (by decide)).trans F3.1) F32) (fun t55 hq55 => ?_)
          subst hq55
          refine jx_iconst (v := 1) dX7_readJoint_58 (by decide) ?_
          refine jx_zret dX7_readJoint_59 rfl ?_ ?_
          · first | exact Or.inl rfl | exact Or.inr rfl | exact jb_or _ | exact StQ_z hq25
          have kk : eqK _ I (upI (upI (upI (upI K3 1006 6 (nI (cpC cp d))) 1006 5 0) 1006 8 1) 1006 9 1) := eqK_u (eqK_u (eqK_u (eqK_u k3)))
          exact ⟨_, rfl, StQ_g (u := ((rlC (rkS (jnt tp sz x)) code wt).1, hdW (rlC (rkS (jnt tp sz x)) code wt).2 (jnt tp sz x), d, 0, cpC cp d, eb, true, true)) (by unfold rJnt; rw [if_neg h6, if_neg h21, if_pos hT]) (eqK_Q kk) (hx.k (by decide) kk) ⟨b2.f (J := upI (upI (upI (upI K3 1006 6 (nI (cpC cp d))) 1006 5 0) 1006 8 1) 1006 9 1) (fun _ => rfl) (fun _ => rfl), b3.f (J := upI (upI (upI (upI K3 1006 6 (nI (cpC cp d))) 1006 5 0) 1006 8 1) 1006 9 1) rfl (fun _ => rfl), ⟨(g6 4 (by decide)).trans F1.1, F12, fun q => by have q : d = 6 := q; omega⟩, ⟨rfl, by show 0 ≤ 6; decide⟩, ⟨rfl, c1.1⟩, (g6 7 (by decide)).trans F4, rfl, rfl⟩⟩
        · refine jx_iload_n dX7_readJoint_48 rfl ?_
          refine jx_bipush (v := -6) dX7_readJoint_49 (by decide) ?_
          refine jx_icmp_ne 60 dX7_readJoint_51 (by decide) (fun h51 => ?_) (fun h51 => ?_)
          · have hT : ¬ (jnt tp sz x = -5 ∨ jnt tp sz x = -6) := fun q => by
              rcases q with q | q
              · exact h45 q
              · exact h51 q
            refine jx_iload_n dX7_readJoint_60 rfl ?_
            refine jx_bipush (v := -8) dX7_readJoint_61 (by decide) ?_
            refine jx_icmp_eq 72 dX7_readJoint_63 (by decide) (fun h63 => ?_) (fun h63 => ?_)
            · have hL : jnt tp sz x = -8 ∨ jnt tp sz x = -9 := Or.inl h63
              refine jx_aload_n dX7_readJoint_72 rfl ?_
              refine jx_getIE dX7_readJoint_73 flX7_66 rfl rfl ((g6 6 (by decide)).trans F3.1) ?_
              refine jx_aload_n dX7_readJoint_76 rfl ?_
              refine jx_getIE dX7_readJoint_77 flX7_27 rfl rfl ((g6 4 (by decide)).trans F1.1) ?_
              refine jx_ishr dX7_readJoint_80 ?_
              refine jx_iconst (v := 1) dX7_readJoint_81 (by decide) ?_
              refine jx_iandE (z := jb (cp.testBit d)) dX7_readJoint_82 (cq.2.2) ?_
              refine jx_ifB_eq 95 dX7_readJoint_83 (by decide) (fun h83 => ?_) (fun h83 => ?_)
              · have h83b := h83
                refine jx_aload_n dX7_readJoint_95 rfl ?_
                refine jx_dup dX7_readJoint_96 rfl ?_
                refine jx_getIE dX7_readJoint_97 flX7_66 rfl rfl ((g6 6 (by decide)).trans F3.1) ?_
                refine jx_iconst (v := 1) dX7_readJoint_100 (by decide) ?_
                refine jx_aload_n dX7_readJoint_101 rfl ?_
                refine jx_getIE dX7_readJoint_102 flX7_27 rfl rfl ((g6 4 (by decide)).trans F1.1) ?_
                refine jx_ishl dX7_readJoint_105 ?_
                refine jx_iorE (z := nI (cpS cp d)) dX7_readJoint_106 (cq.2.1) ?_
                refine jx_putI dX7_readJoint_107 flX7_66 rfl rfl (fun r h => by cases h; rfl) ?_
                refine jx_aload_n dX7_readJoint_110 rfl ?_
                refine jx_iconst (v := 0) dX7_readJoint_111 (by decide) ?_
                refine jx_putZ dX7_readJoint_112 flX7_72 rfl rfl (fun r h => by cases h; rfl) (by first | exact Or.inl rfl | exact Or.inr rfl | exact jb_or _) ?_
                refine jx_aload_n dX7_readJoint_115 rfl ?_
                refine jx_iconst (v := 1) dX7_readJoint_116 (by decide) ?_
                refine jx_putZ dX7_readJoint_117 flX7_33 rfl rfl (fun r h => by cases h; rfl) (by first | exact Or.inl rfl | exact Or.inr rfl | exact jb_or _) ?_
                refine jx_iconst (v := 1) dX7_readJoint_120 (by decide) ?_
                refine jx_zret dX7_readJoint_121 rfl ?_ ?_
                · first | exact Or.inl rfl | exact Or.inr rfl | exact jb_or _ | exact StQ_z hq25
                have kk : eqK _ I (upI (upI (upI K3 1006 6 (nI (cpS cp d))) 1006 8 0) 1006 9 1) := eqK_u (eqK_u (eqK_u k3))
                exact ⟨_, rfl, StQ_g (u := ((rlC (rkS (jnt tp sz x)) code wt).1, hdW (rlC (rkS (jnt tp sz x)) code wt).2 (jnt tp sz x), d, nt, cpS cp d, eb, false, true)) (by unfold rJnt; rw [if_neg h6, if_neg h21, if_neg hT, if_pos hL]; exact if_neg (by rw [show (code, wt, d, nt, cp, eb, nm, false).2.2.2.2.1.testBit (code, wt, d, nt, cp, eb, nm, false).2.2.1 = cp.testBit d from rfl, h83]; decide)) (eqK_Q kk) (hx.k (by decide) kk) ⟨b2.f (J := upI (upI (upI K3 1006 6 (nI (cpS cp d))) 1006 8 0) 1006 9 1) (fun _ => rfl) (fun _ => rfl), b3.f (J := upI (upI (upI K3 1006 6 (nI (cpS cp d))) 1006 8 0) 1006 9 1) rfl (fun _ => rfl), ⟨(g6 4 (by decide)).trans F1.1, F12, fun q => by have q : d = 6 := q; omega⟩, ⟨(g6 5 (by decide)).trans F2.1, F2.2⟩, ⟨rfl, c1.2.1⟩, (g6 7 (by decide)).trans F4, rfl, rfl⟩⟩
              · refine jx_aload_n dX7_readJoint_86 rfl ?_
                refine jx_getR dX7_readJoint_87 flX7_15 rfl rfl (hR _ _ _ rfl) ?_
                refine jx_iconst (v := 1) dX7_readJoint_90 (by decide) ?_
                refine jx_VRi (as := [.int _]) dX7_readJoint_91 mlX7_56 okX9_refuse viX9_refuse rfl rfl rfl rfl rfl (by decide) (Nat.le_of_ble_eq_true rfl) (tX9_refuse_x (k := 1) hW hR (hx.k (by decide) k3) h0 (by decide)) (fun x91 t91 hq91 => ?_)
                obtain ⟨J2, rfl, fJ2, gJ2, rfl⟩ := hq91
                refine jx_zret dX7_readJoint_94 rfl ?_ ?_
                · first | exact Or.inl rfl | exact Or.inr rfl | exact jb_or _ | exact StQ_z hq25
                exact ⟨_, rfl, StQ_b (k := 1) (u := (code, wt, d, nt, cp, eb, nm, false)) (by unfold rJnt; rw [if_neg h6, if_neg h21, if_neg hT, if_pos hL]; exact if_pos h83) (by decide) (eqQ_t (eqK_Q k3) (eqR_Q fJ2)) gJ2 (CPk.r (I := K3) ⟨cp, (g6 6 (by decide)).trans F3.1, F32⟩ fJ2)⟩
            · refine jx_iload_n dX7_readJoint_66 rfl ?_
              refine jx_bipush (v := -9) dX7_readJoint_67 (by decide) ?_
              refine jx_icmp_ne 110 dX7_readJoint_69 (by decide) (fun h69 => ?_) (fun h69 => ?_)
              · have hL : ¬ (jnt tp sz x = -8 ∨ jnt tp sz x = -9) := fun q => by
                  rcases q with q | q
                  · exact h63 q
                  · exact h69 q
                refine jx_aload_n dX7_readJoint_110 rfl ?_
                refine jx_iconst (v := 0) dX7_readJoint_111 (by decide) ?_
                refine jx_putZ dX7_readJoint_112 flX7_72 rfl rfl (fun r h => by cases h; rfl) (by first | exact Or.inl rfl | exact Or.inr rfl | exact jb_or _) ?_
                refine jx_aload_n dX7_readJoint_115 rfl ?_
                refine jx_iconst (v := 1) dX7_readJoint_116 (by decide) ?_
                refine jx_putZ dX7_readJoint_117 flX7_33 rfl rfl (fun r h => by cases h; rfl) (by first | exact Or.inl rfl | exact Or.inr rfl | exact jb_or _) ?_
                refine jx_iconst (v := 1) dX7_readJoint_120 (by decide) ?_
                refine jx_zret dX7_readJoint_121 rfl ?_ ?_
                · first | exact Or.inl rfl | exact Or.inr rfl | exact jb_or _ | exact StQ_z hq25
                have kk : eqK _ I (upI (upI K3 1006 8 0) 1006 9 1) := eqK_u (eqK_u k3)
                exact ⟨_, rfl, StQ_g (u := ((rlC (rkS (jnt tp sz x)) code wt).1, hdW (rlC (rkS (jnt tp sz x)) code wt).2 (jnt tp sz x), d, nt, cp, eb, false, true)) (by unfold rJnt; rw [if_neg h6, if_neg h21, if_neg hT, if_neg hL]) (eqK_Q kk) (hx.k (by decide) kk) ⟨b2.f (J := upI (upI K3 1006 8 0) 1006 9 1) (fun _ => rfl) (fun _ => rfl), b3.f (J := upI (upI K3 1006 8 0) 1006 9 1) rfl (fun _ => rfl), ⟨(g6 4 (by decide)).trans F1.1, F12, fun q => by have q : d = 6 := q; omega⟩, ⟨(g6 5 (by decide)).trans F2.1, F2.2⟩, ⟨(g6 6 (by decide)).trans F3.1, F32⟩, (g6 7 (by decide)).trans F4, rfl, rfl⟩⟩
              · have hL : jnt tp sz x = -8 ∨ jnt tp sz x = -9 := Or.inr h69
                refine jx_aload_n dX7_readJoint_72 rfl ?_
                refine jx_getIE dX7_readJoint_73 flX7_66 rfl rfl ((g6 6 (by decide)).trans F3.1) ?_
                refine jx_aload_n dX7_readJoint_76 rfl ?_
                refine jx_getIE dX7_readJoint_77 flX7_27 rfl rfl ((g6 4 (by decide)).trans F1.1) ?_
                refine jx_ishr dX7_readJoint_80 ?_
                refine jx_iconst (v := 1) dX7_readJoint_81 (by decide) ?_
                refine jx_iandE (z := jb (cp.testBit d)) dX7_readJoint_82 (cq.2.2) ?_
                refine jx_ifB_eq 95 dX7_readJoint_83 (by decide) (fun h83 => ?_) (fun h83 => ?_)
                · have h83b := h83
                  refine jx_aload_n dX7_readJoint_95 rfl ?_
                  refine jx_dup dX7_readJoint_96 rfl ?_
                  refine jx_getIE dX7_readJoint_97 flX7_66 rfl rfl ((g6 6 (by decide)).trans F3.1) ?_
                  refine jx_iconst (v := 1) dX7_readJoint_100 (by decide) ?_
                  refine jx_aload_n dX7_readJoint_101 rfl ?_
                  refine jx_getIE dX7_readJoint_102 flX7_27 rfl rfl ((g6 4 (by decide)).trans F1.1) ?_
                  refine jx_ishl dX7_readJoint_105 ?_
                  refine jx_iorE (z := nI (cpS cp d)) dX7_readJoint_106 (cq.2.1) ?_
                  refine jx_putI dX7_readJoint_107 flX7_66 rfl rfl (fun r h => by cases h; rfl) ?_
                  refine jx_aload_n dX7_readJoint_110 rfl ?_
                  refine jx_iconst (v := 0) dX7_readJoint_111 (by decide) ?_
                  refine jx_putZ dX7_readJoint_112 flX7_72 rfl rfl (fun r h => by cases h; rfl) (by first | exact Or.inl rfl | exact Or.inr rfl | exact jb_or _) ?_
                  refine jx_aload_n dX7_readJoint_115 rfl ?_
                  refine jx_iconst (v := 1) dX7_readJoint_116 (by decide) ?_
                  refine jx_putZ dX7_readJoint_117 flX7_33 rfl rfl (fun r h => by cases h; rfl) (by first | exact Or.inl rfl | exact Or.inr rfl | exact jb_or _) ?_
                  refine jx_iconst (v := 1) dX7_readJoint_120 (by decide) ?_
                  refine jx_zret dX7_readJoint_121 rfl ?_ ?_
                  · first | exact Or.inl rfl | exact Or.inr rfl | exact jb_or _ | exact StQ_z hq25
                  have kk : eqK _ I (upI (upI (upI K3 1006 6 (nI (cpS cp d))) 1006 8 0) 1006 9 1) := eqK_u (eqK_u (eqK_u k3))
                  exact ⟨_, rfl, StQ_g (u := ((rlC (rkS (jnt tp sz x)) code wt).1, hdW (rlC (rkS (jnt tp sz x)) code wt).2 (jnt tp sz x), d, nt, cpS cp d, eb, false, true)) (by unfold rJnt; rw [if_neg h6, if_neg h21, if_neg hT, if_pos hL]; exact if_neg (by rw [show (code, wt, d, nt, cp, eb, nm, false).2.2.2.2.1.testBit (code, wt, d, nt, cp, eb, nm, false).2.2.1 = cp.testBit d from rfl, h83]; decide)) (eqK_Q kk) (hx.k (by decide) kk) ⟨b2.f (J := upI (upI (upI K3 1006 6 (nI (cpS cp d))) 1006 8 0) 1006 9 1) (fun _ => rfl) (fun _ => rfl), b3.f (J := upI (upI (upI K3 1006 6 (nI (cpS cp d))) 1006 8 0) 1006 9 1) rfl (fun _ => rfl), ⟨(g6 4 (by decide)).trans F1.1, F12, fun q => by have q : d = 6 := q; omega⟩, ⟨(g6 5 (by decide)).trans F2.1, F2.2⟩, ⟨rfl, c1.2.1⟩, (g6 7 (by decide)).trans F4, rfl, rfl⟩⟩
                · refine jx_aload_n dX7_readJoint_86 rfl ?_
                  refine jx_getR dX7_readJoint_87 flX7_15 rfl rfl (hR _ _ _ rfl) ?_
                  refine jx_iconst (v := 1) dX7_readJoint_90 (by decide) ?_
                  refine jx_VRi (as := [.int _]) dX7_readJoint_91 mlX7_56 okX9_refuse viX9_refuse rfl rfl rfl rfl rfl (by decide) (Nat.le_of_ble_eq_true rfl) (tX9_refuse_x (k := 1) hW hR (hx.k (by decide) k3) h0 (by decide)) (fun x91 t91 hq91 => ?_)
                  obtain ⟨J2, rfl, fJ2, gJ2, rfl⟩ := hq91
                  refine jx_zret dX7_readJoint_94 rfl ?_ ?_
                  · first | exact Or.inl rfl | exact Or.inr rfl | exact jb_or _ | exact StQ_z hq25
                  exact ⟨_, rfl, StQ_b (k := 1) (u := (code, wt, d, nt, cp, eb, nm, false)) (by unfold rJnt; rw [if_neg h6, if_neg h21, if_neg hT, if_pos hL]; exact if_pos h83) (by decide) (eqQ_t (eqK_Q k3) (eqR_Q fJ2)) gJ2 (CPk.r (I := K3) ⟨cp, (g6 6 (by decide)).trans F3.1, F32⟩ fJ2)⟩
          · have hT : jnt tp sz x = -5 ∨ jnt tp sz x = -6 := Or.inr h51
            refine jx_aload_n dX7_readJoint_54 rfl ?_
            refine jx_VRv (as := []) dX7_readJoint_55 mlX7_63 okX7_beginTest viX7_beginTest rfl rfl rfl rfl rfl (by decide) (Nat.le_of_ble_eq_true rfl) (tX7_beginTest (d := d) (cp := cp) hW hR ((g6 4 (by decide)).trans F1.1) F12 ((g6 6 (by decide)).trans F3.1) F32) (fun t55 hq55 => ?_)
            subst hq55
            refine jx_iconst (v := 1) dX7_readJoint_58 (by decide) ?_
            refine jx_zret dX7_readJoint_59 rfl ?_ ?_
            · first | exact Or.inl rfl | exact Or.inr rfl | exact jb_or _ | exact StQ_z hq25
            have kk : eqK _ I (upI (upI (upI (upI K3 1006 6 (nI (cpC cp d))) 1006 5 0) 1006 8 1) 1006 9 1) := eqK_u (eqK_u (eqK_u (eqK_u k3)))
            exact ⟨_, rfl, StQ_g (u := ((rlC (rkS (jnt tp sz x)) code wt).1, hdW (rlC (rkS (jnt tp sz x)) code wt).2 (jnt tp sz x), d, 0, cpC cp d, eb, true, true)) (by unfold rJnt; rw [if_neg h6, if_neg h21, if_pos hT]) (eqK_Q kk) (hx.k (by decide) kk) ⟨b2.f (J := upI (upI (upI (upI K3 1006 6 (nI (cpC cp d))) 1006 5 0) 1006 8 1) 1006 9 1) (fun _ => rfl) (fun _ => rfl), b3.f (J := upI (upI (upI (upI K3 1006 6 (nI (cpC cp d))) 1006 5 0) 1006 8 1) 1006 9 1) rfl (fun _ => rfl), ⟨(g6 4 (by decide)).trans F1.1, F12, fun q => by have q : d = 6 := q; omega⟩, ⟨rfl, by show 0 ≤ 6; decide⟩, ⟨rfl, c1.1⟩, (g6 7 (by decide)).trans F4, rfl, rfl⟩⟩
      · refine jx_aload_n dX7_readJoint_24 rfl ?_
        refine jx_VRi (as := []) dX7_readJoint_25 mlX7_117 okX7_closeExpr viX7_closeExpr rfl rfl rfl rfl rfl (by decide) (Nat.le_of_ble_eq_true rfl) (tX7_closeExpr hW hR (by decide) hRt hx h0 hS) (fun x25 t25 hq25 => ?_)
        
        refine jx_zret dX7_readJoint_28 rfl ?_ ?_
        · first | exact Or.inl rfl | exact Or.inr rfl | exact jb_or _ | exact StQ_z hq25
        exact ⟨_, rfl, StQ_c (q := pCls (code, wt, d, nt, cp, eb, nm, false)) (by unfold rJnt; rw [if_neg h6, if_pos h21]; rfl) (fun _ => by unfold rJnt; rw [if_neg h6, if_pos h21]; rfl) hq25⟩
    · refine jx_aload_n dX7_readJoint_9 rfl ?_
      refine jx_getR dX7_readJoint_10 flX7_15 rfl rfl (hR _ _ _ rfl) ?_
      refine jx_iconst (v := 1) dX7_readJoint_13 (by decide) ?_
      refine jx_VRi (as := [.int _]) dX7_readJoint_14 mlX7_56 okX9_refuse viX9_refuse rfl rfl rfl rfl rfl (by decide) (Nat.le_of_ble_eq_true rfl) (tX9_refuse_x (k := 1) hW hR hx h0 (by decide)) (fun x14 t14 hq14 => ?_)
      obtain ⟨J2, rfl, fJ2, gJ2, rfl⟩ := hq14
      refine jx_zret dX7_readJoint_17 rfl ?_ ?_
      · first | exact Or.inl rfl | exact Or.inr rfl | exact jb_or _ | exact StQ_z hq25
      exact ⟨_, rfl, StQ_b (k := 1) (u := (code, wt, d, nt, cp, eb, nm, false)) (by unfold rJnt; exact if_pos h6) (by decide) (eqR_Q fJ2) gJ2 (hS.c.r fJ2)⟩
end CZ12
