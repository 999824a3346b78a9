/-! THE CLASS: the rule reader, a whole rule -/
section CZ12
variable {w : jWD} {l : Launch} {n : Nat} {I J K : Nat → Nat → Int32} {L M : Nat → Nat → Int64} {R : Nat → Nat → Option Nat} {sz : Nat} {tp : Nat → Nat} {x : Nat × Nat × Nat} {h : Nat} {code wt : List Int32} {d nt cp : Nat} {eb nm pd : Bool} {s : Rst}

set_option maxHeartbeats 1000000 in
set_option maxRecDepth 20000 in
theorem tX7_readJoint (hW : jWok w l) (hR : RS R) (hh : h = 1008 ∨ h = 1024) (hRt : R 1006 3 = some (h + 5)) (hx : C3 I sz tp x) (h0 : x.2.1 = 0) (hS : RRc I h (code, wt, d, nt, cp, eb, nm, false)) : jRi w l mX7_readJoint 7 [.ref 1006] (n, shE, I, L, R) (StQ n R sz tp h I L x (rJnt tp sz x (code, wt, d, nt, cp, eb, nm, false))) := by
  refine jRi_of hW (by decide) rfl (Nat.le_of_ble_eq_true rfl) ?_
  obtain ⟨F1, F2, F3, F4, F5, F6⟩ : RF I d nt cp eb nm false := hS.2.2
  have F12 := F1.2.1
  have hd5 : d ≤ 5 := by
    by_cases e6 : d = 6
    · have := (F1.2.2 e6).2; cases this
    · omega
  have F32 := F3.2
  have cq := cp_2 cp F32 d (by omega)
  have c1 := cp_1 cp F32 d (by omega)
  have hr6 := rkS_6 (jnt tp sz x)
  rcases hh with rfl | rfl
  all_goals
    refine jx_aload_n dX7_readJoint_0 rfl ?_
    refine jx_Vi (as := []) dX7_readJoint_1 mlX7_113 okX7_jointOf viX7_jointOf rfl rfl rfl rfl rfl (by decide) (Nat.le_of_ble_eq_true rfl) (tX7_jointOf hW hR hx h0) ?_
    refine jx_istore_n dX7_readJoint_4 rfl (by decide) ?_
    refine jx_iload_n dX7_readJoint_5 rfl ?_
    refine jx_if_ne 18 dX7_readJoint_6 (by decide) (fun h6 => ?_) (fun h6 => ?_)
    · refine jx_iload_n dX7_readJoint_18 rfl ?_
      refine jx_bipush (v := -14) dX7_readJoint_19 (by decide) ?_
      refine jx_icmp_ne 29 dX7_readJoint_21 (by decide) (fun h21 => ?_) (fun h21 => ?_)
      · refine jx_aload_n dX7_readJoint_29 rfl ?_
        refine jx_iload_n dX7_readJoint_30 rfl ?_
        refine jx_Si (as := [.int _]) dX7_readJoint_31 mlX7_120 okX7_rankOfSign stX7_rankOfSign rfl rfl (by decide) (Nat.le_of_ble_eq_true rfl) (tX7_rankOfSign hW _) ?_
        refine jx_VRv (as := [.int _]) dX7_readJoint_34 mlX7_42 okX7_release viX7_release rfl rfl rfl rfl rfl (by decide) (Nat.le_of_ble_eq_true rfl) (tX7_release (r := rkS (jnt tp sz x)) (code := code) (wt := wt) hW hR (by decide) hRt hS.1 hS.2.1 hr6) (fun t34 hq34 => ?_)
        obtain ⟨K2, rfl, a2, a3, f2⟩ := hq34
        refine jx_aload_n dX7_readJoint_37 rfl ?_
        refine jx_iload_n dX7_readJoint_38 rfl ?_
        refine jx_VRv (as := [.int _]) dX7_readJoint_39 mlX7_75 okX7_hold viX7_hold rfl rfl rfl rfl rfl (by decide) (Nat.le_of_ble_eq_true rfl) (tX7_hold hW hR a3) (fun t39 hq39 => ?_)
        obtain ⟨K3, rfl, b3, f3⟩ := hq39
        have g6 : ∀ j, 4 ≤ j → K3 1006 j = I 1006 j := fun j hj => (f3 1006 j (by decide) (fun q => by omega)).trans (f2 1006 j (by decide) (by decide) (fun q => by omega))
        have k3 : eqK _ I K3 := fun b j p1 p2 p3 p4 => (f3 b j p2 (fun q => p1 q.1)).trans (f2 b j p3 p4 (fun q => p1 q.1))
        have b2 := a2.f (J := K3) (fun j => f3 _ j (by decide) (fun q => absurd q.1 (by decide))) (fun j => f3 _ j (by decide) (fun q => absurd q.1 (by decide)))
        refine jx_iload_n dX7_readJoint_42 rfl ?_
        refine jx_bipush (v := -5) dX7_readJoint_43 (by decide) ?_
        refine jx_icmp_eq 54 dX7_readJoint_45 (by decide) (fun h45 => ?_) (fun h45 => ?_)
        · have hT : jnt tp sz x = -5 ∨ jnt tp sz x = -6 := Or.inl h45
          refine jx_aload_n dX7_readJoint_54 rfl ?_
          refine jx_VRv (as := []) dX7_readJoint_55 mlX7_63 okX7_beginTest viX7_beginTest rfl rfl rfl rfl rfl (by decide) (Nat.le_of_ble_eq_true rfl) (tX7_beginTest (d := d) (cp := cp) hW hR ((g6 4 (by decide)).trans F1.1) F12 ((g6 6 (by decide)).trans F3.1) F32) (fun t55 hq55 => ?_)
          subst hq55
          refine jx_iconst (v := 1) dX7_readJoint_58 (by decide) ?_
          refine jx_zret dX7_readJoint_59 rfl ?_ ?_
          · first | exact Or.inl rfl | exact Or.inr rfl | exact jb_or _ | exact StQ_z hq25
          have kk : eqK _ I (upI (upI (upI (upI K3 1006 6 (nI (cpC cp d))) 1006 5 0) 1006 8 1) 1006 9 1) := eqK_u (eqK_u (eqK_u (eqK_u k3)))
          exact ⟨_, rfl, StQ_g (u := ((rlC (rkS (jnt tp sz x)) code wt).1, hdW (rlC (rkS (jnt tp sz x)) code wt).2 (jnt tp sz x), d, 0, cpC cp d, eb, true, true)) (by unfold rJnt; rw [if_neg h6, if_neg h21, if_pos hT]) (eqK_Q kk) (hx.k (by decide) kk) ⟨b2.f (J := upI (upI (upI (upI K3 1006 6 (nI (cpC cp d))) 1006 5 0) 1006 8 1) 1006 9 1) (fun _ => rfl) (fun _ => rfl), b3.f (J := upI (upI (upI (upI K3 1006 6 (nI (cpC cp d))) 1006 5 0) 1006 8 1) 1006 9 1) rfl (fun _ => rfl), ⟨(g6 4 (by decide)).trans F1.1, F12, fun q => by have q : d = 6 := q; omega⟩, ⟨rfl, by show 0 ≤ 6; decide⟩, ⟨rfl, c1.1⟩, (g6 7 (by decide)).trans F4, rfl, rfl⟩⟩
        · refine jx_iload_n dX7_readJoint_48 rfl ?_
          refine jx_bipush (v := -6) dX7_readJoint_49 (by decide) ?_
          refine jx_icmp_ne 60 dX7_readJoint_51 (by decide) (fun h51 => ?_) (fun h51 => ?_)
          · have hT : ¬ (jnt tp sz x = -5 ∨ jnt tp sz x = -6) := fun q => by
              rcases q with q | q
              · exact h45 q
              · exact h51 q
            refine jx_iload_n dX7_readJoint_60 rfl ?_
            refine jx_bipush (v := -8) dX7_readJoint_61 (by decide) ?_
            refine jx_icmp_eq 72 dX7_readJoint_63 (by decide) (fun h63 => ?_) (fun h63 => ?_)
            · have hL : jnt tp sz x = -8 ∨ jnt tp sz x = -9 := Or.inl h63
              refine jx_aload_n dX7_readJoint_72 rfl ?_
              refine jx_getIE dX7_readJoint_73 flX7_66 rfl rfl ((g6 6 (by decide)).trans F3.1) ?_
              refine jx_aload_n dX7_readJoint_76 rfl ?_
              refine jx_getIE dX7_readJoint_77 flX7_27 rfl rfl ((g6 4 (by decide)).trans F1.1) ?_
              refine jx_ishr dX7_readJoint_80 ?_
              refine jx_iconst (v := 1) dX7_readJoint_81 (by decide) ?_
              refine jx_iandE (z := jb (cp.testBit d)) dX7_readJoint_82 (cq.2.2) ?_
              refine jx_ifB_eq 95 dX7_readJoint_83 (by decide) (fun h83 => ?_) (fun h83 => ?_)
              · have h83b := h83
                refine jx_aload_n dX7_readJoint_95 rfl ?_
                refine jx_dup dX7_readJoint_96 rfl ?_
                refine jx_getIE dX7_readJoint_97 flX7_66 rfl rfl ((g6 6 (by decide)).trans F3.1) ?_
                refine jx_iconst (v := 1) dX7_readJoint_100 (by decide) ?_
                refine jx_aload_n dX7_readJoint_101 rfl ?_
                refine jx_getIE dX7_readJoint_102 flX7_27 rfl rfl ((g6 4 (by decide)).trans F1.1) ?_
                refine jx_ishl dX7_readJoint_105 ?_
                refine jx_iorE (z := nI (cpS cp d)) dX7_readJoint_106 (cq.2.1) ?_
                refine jx_putI dX7_readJoint_107 flX7_66 rfl rfl (fun r h => by cases h; rfl) ?_
                refine jx_aload_n dX7_readJoint_110 rfl ?_
                refine jx_iconst (v := 0) dX7_readJoint_111 (by decide) ?_
                refine jx_putZ dX7_readJoint_112 flX7_72 rfl rfl (fun r h => by cases h; rfl) (by first | exact Or.inl rfl | exact Or.inr rfl | exact jb_or _) ?_
                refine jx_aload_n dX7_readJoint_115 rfl ?_
                refine jx_iconst (v := 1) dX7_readJoint_116 (by decide) ?_
                refine jx_putZ dX7_readJoint_117 flX7_33 rfl rfl (fun r h => by cases h; rfl) (by first | exact Or.inl rfl | exact Or.inr rfl | exact jb_or _) ?_
                refine jx_iconst (v := 1) dX7_readJoint_120 (by decide) ?_
                refine jx_zret dX7_readJoint_121 rfl ?_ ?_
                · first | exact Or.inl rfl | exact Or.inr rfl | exact jb_or _ | exact StQ_z hq25
                have kk : eqK _ I (upI (upI (upI K3 1006 6 (nI (cpS cp d))) 1006 8 0) 1006 9 1) := eqK_u (eqK_u (eqK_u k3))
                exact ⟨_, rfl, StQ_g (u := ((rlC (rkS (jnt tp sz x)) code wt).1, hdW (rlC (rkS (jnt tp sz x)) code wt).2 (jnt tp sz x), d, nt, cpS cp d, eb, false, true)) (by unfold rJnt; rw [if_neg h6, if_neg h21, if_neg hT, if_pos hL]; exact if_neg (by rw [show (code, wt, d, nt, cp, eb, nm, false).2.2.2.2.1.testBit (code, wt, d, nt, cp, eb, nm, false).2.2.1 = cp.testBit d from rfl, h83]; decide)) (eqK_Q kk) (hx.k (by decide) kk) ⟨b2.f (J := upI (upI (upI K3 1006 6 (nI (cpS cp d))) 1006 8 0) 1006 9 1) (fun _ => rfl) (fun _ => rfl), b3.f (J := upI (upI (upI K3 1006 6 (nI (cpS cp d))) 1006 8 0) 1006 9 1) rfl (fun _ => rfl), ⟨(g6 4 (by decide)).trans F1.1, F12, fun q => by have q : d = 6 := q; omega⟩, ⟨(g6 5 (by decide)).trans F2.1, F2.2⟩, ⟨rfl, c1.2.1⟩, (g6 7 (by decide)).trans F4, rfl, rfl⟩⟩
              · refine jx_aload_n dX7_readJoint_86 rfl ?_
                refine jx_getR dX7_readJoint_87 flX7_15 rfl rfl (hR _ _ _ rfl) ?_
                refine jx_iconst (v := 1) dX7_readJoint_90 (by decide) ?_
                refine jx_VRi (as := [.int _]) dX7_readJoint_91 mlX7_56 okX9_refuse viX9_refuse rfl rfl rfl rfl rfl (by decide) (Nat.le_of_ble_eq_true rfl) (tX9_refuse_x (k := 1) hW hR (hx.k (by decide) k3) h0 (by decide)) (fun x91 t91 hq91 => ?_)
                obtain ⟨J2, rfl, fJ2, gJ2, rfl⟩ := hq91
                refine jx_zret dX7_readJoint_94 rfl ?_ ?_
                · first | exact Or.inl rfl | exact Or.inr rfl | exact jb_or _ | exact StQ_z hq25
                exact ⟨_, rfl, StQ_b (k := 1) (u := (code, wt, d, nt, cp, eb, nm, false)) (by unfold rJnt; rw [if_neg h6, if_neg h21, if_neg hT, if_pos hL]; exact if_pos h83) (by decide) (eqQ_t (eqK_Q k3) (eqR_Q fJ2)) gJ2 (CPk.r (I := K3) ⟨cp, (g6 6 (by decide)).trans F3.1, F32⟩ fJ2)⟩
            · refine jx_iload_n dX7_readJoint_66 rfl ?_
              refine jx_bipush (v := -9) dX7_readJoint_67 (by decide) ?_
              refine jx_icmp_ne 110 dX7_readJoint_69 (by decide) (fun h69 => ?_) (fun h69 => ?_)
              · have hL : ¬ (jnt tp sz x = -8 ∨ jnt tp sz x = -9) := fun q => by
                  rcases q with q | q
                  · exact h63 q
                  · exact h69 q
                refine jx_aload_n dX7_readJoint_110 rfl ?_
                refine jx_iconst (v := 0) dX7_readJoint_111 (by decide) ?_
                refine jx_putZ dX7_readJoint_112 flX7_72 rfl rfl (fun r h => by cases h; rfl) (by first | exact Or.inl rfl | exact Or.inr rfl | exact jb_or _) ?_
                refine jx_aload_n dX7_readJoint_115 rfl ?_
                refine jx_iconst (v := 1) dX7_readJoint_116 (by decide) ?_
                refine jx_putZ dX7_readJoint_117 flX7_33 rfl rfl (fun r h => by cases h; rfl) (by first | exact Or.inl rfl | exact Or.inr rfl | exact jb_or _) ?_
                refine jx_iconst (v := 1) dX7_readJoint_120 (by decide) ?_
                refine jx_zret dX7_readJoint_121 rfl ?_ ?_
                · first | exact Or.inl rfl | exact Or.inr rfl | exact jb_or _ | exact StQ_z hq25
                have kk : eqK _ I (upI (upI K3 1006 8 0) 1006 9 1) := eqK_u (eqK_u k3)
                exact ⟨_, rfl, StQ_g (u := ((rlC (rkS (jnt tp sz x)) code wt).1, hdW (rlC (rkS (jnt tp sz x)) code wt).2 (jnt tp sz x), d, nt, cp, eb, false, true)) (by unfold rJnt; rw [if_neg h6, if_neg h21, if_neg hT, if_neg hL]) (eqK_Q kk) (hx.k (by decide) kk) ⟨b2.f (J := upI (upI K3 1006 8 0) 1006 9 1) (fun _ => rfl) (fun _ => rfl), b3.f (J := upI (upI K3 1006 8 0) 1006 9 1) rfl (fun _ => rfl), ⟨(g6 4 (by decide)).trans F1.1, F12, fun q => by have q : d = 6 := q; omega⟩, ⟨(g6 5 (by decide)).trans F2.1, F2.2⟩, ⟨(g6 6 (by decide)).trans F3.1, F32⟩, (g6 7 (by decide)).trans F4, rfl, rfl⟩⟩
              · have hL : jnt tp sz x = -8 ∨ jnt tp sz x = -9 := Or.inr h69
                refine jx_aload_n dX7_readJoint_72 rfl ?_
                refine jx_getIE dX7_readJoint_73 flX7_66 rfl rfl ((g6 6 (by decide)).trans F3.1) ?_
                refine jx_aload_n dX7_readJoint_76 rfl ?_
                refine jx_getIE dX7_readJoint_77 flX7_27 rfl rfl ((g6 4 (by decide)).trans F1.1) ?_
                refine jx_ishr dX7_readJoint_80 ?_
                refine jx_iconst (v := 1) dX7_readJoint_81 (by decide) ?_
                refine jx_iandE (z := jb (cp.testBit d)) dX7_readJoint_82 (cq.2.2) ?_
                refine jx_ifB_eq 95 dX7_readJoint_83 (by decide) (fun h83 => ?_) (fun h83 => ?_)
                · have h83b := h83
                  refine jx_aload_n dX7_readJoint_95 rfl ?_
                  refine jx_dup dX7_readJoint_96 rfl ?_
                  refine jx_getIE dX7_readJoint_97 flX7_66 rfl rfl ((g6 6 (by decide)).trans F3.1) ?_
                  refine jx_iconst (v := 1) dX7_readJoint_100 (by decide) ?_
                  refine jx_aload_n dX7_readJoint_101 rfl ?_
                  refine jx_getIE dX7_readJoint_102 flX7_27 rfl rfl ((g6 4 (by decide)).trans F1.1) ?_
                  refine jx_ishl dX7_readJoint_105 ?_
                  refine jx_iorE (z := nI (cpS cp d)) dX7_readJoint_106 (cq.2.1) ?_
                  refine jx_putI dX7_readJoint_107 flX7_66 rfl rfl (fun r h => by cases h; rfl) ?_
                  refine jx_aload_n dX7_readJoint_110 rfl ?_
                  refine jx_iconst (v := 0) dX7_readJoint_111 (by decide) ?_
                  refine jx_putZ dX7_readJoint_112 flX7_72 rfl rfl (fun r h => by cases h; rfl) (by first | exact Or.inl rfl | exact Or.inr rfl | exact jb_or _) ?_
                  refine jx_aload_n dX7_readJoint_115 rfl ?_
                  refine jx_iconst (v := 1) dX7_readJoint_116 (by decide) ?_
                  refine jx_putZ dX7_readJoint_117 flX7_33 rfl rfl (fun r h => by cases h; rfl) (by first | exact Or.inl rfl | exact Or.inr rfl | exact jb_or _) ?_
                  refine jx_iconst (v := 1) dX7_readJoint_120 (by decide) ?_
                  refine jx_zret dX7_readJoint_121 rfl ?_ ?_
                  · first | exact Or.inl rfl | exact Or.inr rfl | exact jb_or _ | exact StQ_z hq25
                  have kk : eqK _ I (upI (upI (upI K3 1006 6 (nI (cpS cp d))) 1006 8 0) 1006 9 1) := eqK_u (eqK_u (eqK_u k3))
                  exact ⟨_, rfl, StQ_g (u := ((rlC (rkS (jnt tp sz x)) code wt).1, hdW (rlC (rkS (jnt tp sz x)) code wt).2 (jnt tp sz x), d, nt, cpS cp d, eb, false, true)) (by unfold rJnt; rw [if_neg h6, if_neg h21, if_neg hT, if_pos hL]; exact if_neg (by rw [show (code, wt, d, nt, cp, eb, nm, false).2.2.2.2.1.testBit (code, wt, d, nt, cp, eb, nm, false).2.2.1 = cp.testBit d from rfl, h83]; decide)) (eqK_Q kk) (hx.k (by decide) kk) ⟨b2.f (J := upI (upI (upI K3 1006 6 (nI (cpS cp d))) 1006 8 0) 1006 9 1) (fun _ => rfl) (fun _ => rfl), b3.f (J := upI (upI (upI K3 1006 6 (nI (cpS cp d))) 1006 8 0) 1006 9 1) rfl (fun _ => rfl), ⟨(g6 4 (by decide)).trans F1.1, F12, fun q => by have q : d = 6 := q; omega⟩, ⟨(g6 5 (by decide)).trans F2.1, F2.2⟩, ⟨rfl, c1.2.1⟩, (g6 7 (by decide)).trans F4, rfl, rfl⟩⟩
                · refine jx_aload_n dX7_readJoint_86 rfl ?_
                  refine jx_getR dX7_readJoint_87 flX7_15 rfl rfl (hR _ _ _ rfl) ?_
                  refine jx_iconst (v := 1) dX7_readJoint_90 (by decide) ?_
                  refine jx_VRi (as := [.int _]) dX7_readJoint_91 mlX7_56 okX9_refuse viX9_refuse rfl rfl rfl rfl rfl (by decide) (Nat.le_of_ble_eq_true rfl) (tX9_refuse_x (k := 1) hW hR (hx.k (by decide) k3) h0 (by decide)) (fun x91 t91 hq91 => ?_)
                  obtain ⟨J2, rfl, fJ2, gJ2, rfl⟩ := hq91
                  refine jx_zret dX7_readJoint_94 rfl ?_ ?_
                  · first | exact Or.inl rfl | exact Or.inr rfl | exact jb_or _ | exact StQ_z hq25
                  exact ⟨_, rfl, StQ_b (k := 1) (u := (code, wt, d, nt, cp, eb, nm, false)) (by unfold rJnt; rw [if_neg h6, if_neg h21, if_neg hT, if_pos hL]; exact if_pos h83) (by decide) (eqQ_t (eqK_Q k3) (eqR_Q fJ2)) gJ2 (CPk.r (I := K3) ⟨cp, (g6 6 (by decide)).trans F3.1, F32⟩ fJ2)⟩
          · have hT : jnt tp sz x = -5 ∨ jnt tp sz x = -6 := Or.inr h51
            refine jx_aload_n dX7_readJoint_54 rfl ?_
            refine jx_VRv (as := []) dX7_readJoint_55 mlX7_63 okX7_beginTest viX7_beginTest rfl rfl rfl rfl rfl (by decide) (Nat.le_of_ble_eq_true rfl) (tX7_beginTest (d := d) (cp := cp) hW hR ((g6 4 (by decide)).trans F1.1) F12 ((g6 6 (by decide)).trans F3.1) F32) (fun t55 hq55 => ?_)
            subst hq55
            refine jx_iconst (v := 1) dX7_readJoint_58 (by decide) ?_
            refine jx_zret dX7_readJoint_59 rfl ?_ ?_
            · first | exact Or.inl rfl | exact Or.inr rfl | exact jb_or _ | exact StQ_z hq25
            have kk : eqK _ I (upI (upI (upI (upI K3 1006 6 (nI (cpC cp d))) 1006 5 0) 1006 8 1) 1006 9 1) := eqK_u (eqK_u (eqK_u (eqK_u k3)))
            exact ⟨_, rfl, StQ_g (u := ((rlC (rkS (jnt tp sz x)) code wt).1, hdW (rlC (rkS (jnt tp sz x)) code wt).2 (jnt tp sz x), d, 0, cpC cp d, eb, true, true)) (by unfold rJnt; rw [if_neg h6, if_neg h21, if_pos hT]) (eqK_Q kk) (hx.k (by decide) kk) ⟨b2.f (J := upI (upI (upI (upI K3 1006 6 (nI (cpC cp d))) 1006 5 0) 1006 8 1) 1006 9 1) (fun _ => rfl) (fun _ => rfl), b3.f (J := upI (upI (upI (upI K3 1006 6 (nI (cpC cp d))) 1006 5 0) 1006 8 1) 1006 9 1) rfl (fun _ => rfl), ⟨(g6 4 (by decide)).trans F1.1, F12, fun q => by have q : d = 6 := q; omega⟩, ⟨rfl, by show 0 ≤ 6; decide⟩, ⟨rfl, c1.1⟩, (g6 7 (by decide)).trans F4, rfl, rfl⟩⟩
      · refine jx_aload_n dX7_readJoint_24 rfl ?_
        refine jx_VRi (as := []) dX7_readJoint_25 mlX7_117 okX7_closeExpr viX7_closeExpr rfl rfl rfl rfl rfl (by decide) (Nat.le_of_ble_eq_true rfl) (tX7_closeExpr hW hR (by decide) hRt hx h0 hS) (fun x25 t25 hq25 => ?_)
        
        refine jx_zret dX7_readJoint_28 rfl ?_ ?_
        · first | exact Or.inl rfl | exact Or.inr rfl | exact jb_or _ | exact StQ_z hq25
        exact ⟨_, rfl, StQ_c (q := pCls (code, wt, d, nt, cp, eb, nm, false)) (by unfold rJnt; rw [if_neg h6, if_pos h21]; rfl) (fun _ => by unfold rJnt; rw [if_neg h6, if_pos h21]; rfl) hq25⟩
    · refine jx_aload_n dX7_readJoint_9 rfl ?_
      refine jx_getR dX7_readJoint_10 flX7_15 rfl rfl (hR _ _ _ rfl) ?_
      refine jx_iconst (v := 1) dX7_readJoint_13 (by decide) ?_
      refine jx_VRi (as := [.int _]) dX7_readJoint_14 mlX7_56 okX9_refuse viX9_refuse rfl rfl rfl rfl rfl (by decide) (Nat.le_of_ble_eq_true rfl) (tX9_refuse_x (k := 1) hW hR hx h0 (by decide)) (fun x14 t14 hq14 => ?_)
      obtain ⟨J2, rfl, fJ2, gJ2, rfl⟩ := hq14
      refine jx_zret dX7_readJoint_17 rfl ?_ ?_
      · first | exact Or.inl rfl | exact Or.inr rfl | exact jb_or _ | exact StQ_z hq25
      exact ⟨_, rfl, StQ_b (k := 1) (u := (code, wt, d, nt, cp, eb, nm, false)) (by unfold rJnt; exact if_pos h6) (by decide) (eqR_Q fJ2) gJ2 (hS.c.r fJ2)⟩
theorem RS_u {a k : Nat} {v : Option Nat} (hR : RS R) (ha : rtE a k = none) : RS (upR R a k v) := fun b j x hx => by
  unfold upR
  by_cases e : b = a ∧ j = k
  · rw [e.1, e.2, ha] at hx; cases hx
  · rw [if_neg e]; exact hR b j x hx
theorem upR_s {a k : Nat} {v : Option Nat} : upR R a k v a k = v := by unfold upR; rw [if_pos ⟨rfl, rfl⟩]
/-- what reading a rule comes to -/
def RuQ (n : Nat) (R : Nat → Nat → Option Nat) (sz : Nat) (tp : Nat → Nat) (h : Nat) (I : Nat → Nat → Int32) (L : Nat → Nat → Int64) (res : X3t × Option (List Int32)) (r : Int32) (t : jHS) : Prop := ∃ J, t = (n, shE, J, L, R) ∧ eqQ h I J ∧ CPk J ∧ C3 J sz tp res.1 ∧ (∀ c, res.2 = some c → RA J h c ∧ r = jb true) ∧ (res.2 = none → r = jb false)
theorem RuQ_g {res : X3t × Option (List Int32)} {c : List Int32} (hr : res = (x, some c)) (f : eqQ h I J) (hc : CPk J) (hx : C3 J sz tp x) (hA : RA J h c) : RuQ n R sz tp h I L res (jb true) (n, shE, J, L, R) := by
  subst hr
  exact ⟨J, rfl, f, hc, hx, fun c q => by cases q; exact ⟨hA, rfl⟩, fun q => by cases q⟩
theorem RuQ_b {res : X3t × Option (List Int32)} (hr : res = (x, none)) (f : eqQ h I J) (hc : CPk J) (hx : C3 J sz tp x) : RuQ n R sz tp h I L res (jb false) (n, shE, J, L, R) := by
  subst hr
  exact ⟨J, rfl, f, hc, hx, fun c q => (by cases q), fun _ => rfl⟩

set_option maxHeartbeats 1000000 in
set_option maxRecDepth 20000 in
theorem tX7_readRule (hW : jWok w l) (hR : RS R) (hh : h = 1008 ∨ h = 1024) (hx : C3 I sz tp x) (h0 : x.2.1 = 0) (hA : RA I h []) (hc6 : I 1006 6 = nI cp) (hc7 : cp < 128) : jRi w l mX7_readRule 8 [.ref 1006, .ref (h + 5)] (n, shE, I, L, R) (RuQ n (upR R 1006 3 (some (h + 5))) sz tp h I L (mGo tp sz 701 x ([], [], 0, 0, cpC cp 0, true, true, true))) := by
  refine jRi_of hW (by decide) rfl (Nat.le_of_ble_eq_true rfl) ?_
  generalize hres : mGo tp sz 701 x ([], [], 0, 0, cpC cp 0, true, true, true) = res
  generalize hRR : (upR R 1006 3 (some (h + 5))) = RR
  have hR2 : RS RR := by rw [← hRR]; exact RS_u hR rfl
  have hRt : RR 1006 3 = some (h + 5) := by rw [← hRR]; exact upR_s
  have key : ∀ g k, k + g = 701 → ∀ (K : Nat → Nat → Int32) (X : X3t) (cs ws : List Int32) (d' nt' cp' : Nat) (eb' nm' pd' : Bool), eqQ h I K → C3 K sz tp X → X.2.1 = 0 → RRc K h (cs, ws, d', nt', cp', eb', nm', pd') → res = mGo tp sz g X (cs, ws, d', nt', cp', eb', nm', pd') → jWP w l mX7_readRule 8 0 0 (fun v t => ∃ r, v = some (.int r) ∧ RuQ n RR sz tp h I L res r t) (fun _ _ => False) 21 [(0, .ref 1006), (1, .ref (h + 5)), (2, .int (nI k))] [] (n, shE, K, L, RR) := by
    intro g
    induction g with
    | zero =>
      intro k hk K X cs ws d' nt' cp' eb' nm' pd' e1 e2 e3 e4 e5
      refine jx_iload_n dX7_readRule_21 rfl ?_
      refine jx_sipush (v := 700) dX7_readRule_22 (by decide) ?_
      refine jx_icmpN_gt (a := k) (b := 700) 99 dX7_readRule_25 (by decide) (by omega) (by omega) (fun h25 => ?_) (fun h25 => ?_)
      · refine jx_aload_n dX7_readRule_99 rfl ?_
        refine jx_getR dX7_readRule_100 flX7_15 rfl rfl (hR2 _ _ _ rfl) ?_
        refine jx_iconst (v := 1) dX7_readRule_103 (by decide) ?_
        refine jx_VRi (as := [.int _]) dX7_readRule_104 mlX7_56 okX9_refuse viX9_refuse rfl rfl rfl rfl rfl (by decide) (Nat.le_of_ble_eq_true rfl) (tX9_refuse_x (k := 1) hW hR2 e2 e3 (by decide)) (fun x104 t104 hq104 => ?_)
        obtain ⟨J2, rfl, fJ2, gJ2, rfl⟩ := hq104
        refine jx_zret dX7_readRule_107 rfl ?_ ?_
        · first | exact Or.inl rfl | exact Or.inr rfl | exact jb_or _
        exact ⟨_, rfl, RuQ_b e5 (eqQ_t e1 (eqR_Q fJ2)) (e4.c.r fJ2) gJ2⟩
      · exact absurd h25 (by omega)
    | succ g ih =>
      intro k hk K X cs ws d' nt' cp' eb' nm' pd' e1 e2 e3 e4 e5
      have F : RF K d' nt' cp' eb' nm' pd' := e4.2.2
      have F12 : d' ≤ 6 := F.1.2.1
      have hkl := kdC_lt e2.1 X.1
      have hk0 : K 1005 4 = nI (kdC tp sz X.1) := e2.2.1.2.2.1
      have hm := mkX_c (tp := tp) (sz := sz) e3 (c := 59) (by decide)
      rw [mGo] at e5
      cases pd' with
      | true =>
        rw [if_neg (by rw [rEnd_p]; decide), show rStp tp sz X (cs, ws, d', nt', cp', eb', nm', true) = rPart tp sz X (cs, ws, d', nt', cp', eb', nm', true) from rP_st rfl] at e5
        generalize hq0 : rPart tp sz X (cs, ws, d', nt', cp', eb', nm', true) = q at e5
        refine jx_iload_n dX7_readRule_21 rfl ?_
        refine jx_sipush (v := 700) dX7_readRule_22 (by decide) ?_
        refine jx_icmpN_gt (a := k) (b := 700) 99 dX7_readRule_25 (by decide) (by omega) (by omega) (fun h25 => ?_) (fun h25 => ?_)
        · exact absurd h25 (by omega)
        · refine jx_aload_n dX7_readRule_28 rfl ?_
          refine jx_getIE dX7_readRule_29 flX7_33 rfl rfl (F.2.2.2.2.2) ?_
          refine jx_ifB_ne 61 dX7_readRule_32 (by decide) (fun h32 => ?_) (fun h32 => by cases h32)
          refine jx_aload_n dX7_readRule_61 rfl ?_
          refine jx_getIE dX7_readRule_62 flX7_33 rfl rfl (F.2.2.2.2.2) ?_
          refine jx_ifB_eq 75 dX7_readRule_65 (by decide) (fun h65 => by cases h65) (fun h65 => ?_)
          refine jx_aload_n dX7_readRule_68 rfl ?_
          refine jx_VRi (as := []) dX7_readRule_69 mlX7_46 okX7_readPart viX7_readPart rfl rfl rfl rfl rfl (by decide) (Nat.le_of_ble_eq_true rfl) (tX7_readPart hW hR2 hh hRt e2 e3 e4) (fun x69 t69 hq69 => ?_)
          obtain ⟨J2, rfl, fJ2, cJ2, pJ2, rfl⟩ := hq69
          rw [hq0] at cJ2 ⊢
          refine jx_goto 79 dX7_readRule_72 (by decide) ?_
          refine jx_istore_n dX7_readRule_79 rfl (by decide) ?_
          refine jx_iload_n dX7_readRule_80 rfl ?_
          refine jx_ifB_ne 86 dX7_readRule_81 (by decide) (fun h81 => ?_) (fun h81 => ?_)
          · have hz := of_decide_eq_true h81
            rw [if_pos hz] at cJ2 e5
            refine jx_aload_n dX7_readRule_86 rfl ?_
            refine jx_getR dX7_readRule_87 flX7_15 rfl rfl (hR2 _ _ _ rfl) ?_
            refine jx_VRv (as := []) dX7_readRule_90 mlX7_53 okX9_advance viX9_advance rfl rfl rfl rfl rfl (by decide) (Nat.le_of_ble_eq_true rfl) (tX9_advance_x hW hR2 cJ2.1) (fun t90 hq90 => ?_)
            obtain ⟨J3, rfl, fJ3, gJ3⟩ := hq90
            refine jx_iinc dX7_readRule_93 rfl (v := nI (k + 1)) (nI_1 _) (by decide) ?_
            refine jx_goto 21 dX7_readRule_96 (by decide) ?_
            exact jx_ls (by exact ⟨rfl, rfl, rfl, trivial⟩) (ih (k + 1) (by omega) J3 _ _ _ _ _ _ _ _ _ (eqQ_t e1 (eqQ_t fJ2 (eqR_Q (eqV_R fJ3)))) gJ3 e3 (cJ2.2.r hh (eqV_R fJ3)) e5)
          · have hz := of_decide_eq_false h81
            rw [if_neg hz] at cJ2 e5
            refine jx_iconst (v := 0) dX7_readRule_84 (by decide) ?_
            refine jx_zret dX7_readRule_85 rfl ?_ ?_
            · first | exact Or.inl rfl | exact Or.inr rfl | exact jb_or _
            exact ⟨_, rfl, RuQ_b e5 (eqQ_t e1 fJ2) pJ2 cJ2⟩
      | false =>
        have hrE : rEnd tp sz X (cs, ws, d', nt', cp', eb', nm', false) = (decide (d' = 0) && mkX tp sz X 59) := by unfold rEnd; simp
        have key2 : rEnd tp sz X (cs, ws, d', nt', cp', eb', nm', false) = false → jWP w l mX7_readRule 8 0 0 (fun v t => ∃ r, v = some (.int r) ∧ RuQ n RR sz tp h I L res r t) (fun _ _ => False) 61 [(0, .ref 1006), (1, .ref (h + 5)), (2, .int (nI k))] [] (n, shE, K, L, RR) := by
          intro hE
          rw [if_neg (by rw [hE]; decide), show rStp tp sz X (cs, ws, d', nt', cp', eb', nm', false) = rJnt tp sz X (cs, ws, d', nt', cp', eb', nm', false) from by unfold rStp; exact if_neg (fun q : false = true => by cases q)] at e5
          generalize hq0 : rJnt tp sz X (cs, ws, d', nt', cp', eb', nm', false) = q at e5
          refine jx_aload_n dX7_readRule_61 rfl ?_
          refine jx_getIE dX7_readRule_62 flX7_33 rfl rfl (F.2.2.2.2.2) ?_
          refine jx_ifB_eq 75 dX7_readRule_65 (by decide) (fun h65 => ?_) (fun h65 => by cases h65)
          refine jx_aload_n dX7_readRule_75 rfl ?_
          refine jx_VRi (as := []) dX7_readRule_76 mlX7_50 okX7_readJoint viX7_readJoint rfl rfl rfl rfl rfl (by decide) (Nat.le_of_ble_eq_true rfl) (tX7_readJoint hW hR2 hh hRt e2 e3 e4) (fun x76 t76 hq76 => ?_)
          obtain ⟨J2, rfl, fJ2, cJ2, pJ2, rfl⟩ := hq76
          rw [hq0] at cJ2 ⊢
          refine jx_istore_n dX7_readRule_79 rfl (by decide) ?_
          refine jx_iload_n dX7_readRule_80 rfl ?_
          refine jx_ifB_ne 86 dX7_readRule_81 (by decide) (fun h81 => ?_) (fun h81 => ?_)
          · have hz := of_decide_eq_true h81
            rw [if_pos hz] at cJ2 e5
            refine jx_aload_n dX7_readRule_86 rfl ?_
            refine jx_getR dX7_readRule_87 flX7_15 rfl rfl (hR2 _ _ _ rfl) ?_
            refine jx_VRv (as := []) dX7_readRule_90 mlX7_53 okX9_advance viX9_advance rfl rfl rfl rfl rfl (by decide) (Nat.le_of_ble_eq_true rfl) (tX9_advance_x hW hR2 cJ2.1) (fun t90 hq90 => ?_)
            obtain ⟨J3, rfl, fJ3, gJ3⟩ := hq90
            refine jx_iinc dX7_readRule_93 rfl (v := nI (k + 1)) (nI_1 _) (by decide) ?_
            refine jx_goto 21 dX7_readRule_96 (by decide) ?_
            exact jx_ls (by exact ⟨rfl, rfl, rfl, trivial⟩) (ih (k + 1) (by omega) J3 _ _ _ _ _ _ _ _ _ (eqQ_t e1 (eqQ_t fJ2 (eqR_Q (eqV_R fJ3)))) gJ3 e3 (cJ2.2.r hh (eqV_R fJ3)) e5)
          · have hz := of_decide_eq_false h81
            rw [if_neg hz] at cJ2 e5
            refine jx_iconst (v := 0) dX7_readRule_84 (by decide) ?_
            refine jx_zret dX7_readRule_85 rfl ?_ ?_
            · first | exact Or.inl rfl | exact Or.inr rfl | exact jb_or _
            exact ⟨_, rfl, RuQ_b e5 (eqQ_t e1 fJ2) pJ2 cJ2⟩
        refine jx_iload_n dX7_readRule_21 rfl ?_
        refine jx_sipush (v := 700) dX7_readRule_22 (by decide) ?_
        refine jx_icmpN_gt (a := k) (b := 700) 99 dX7_readRule_25 (by decide) (by omega) (by omega) (fun h25 => ?_) (fun h25 => ?_)
        · exact absurd h25 (by omega)
        · refine jx_aload_n dX7_readRule_28 rfl ?_
          refine jx_getIE dX7_readRule_29 flX7_33 rfl rfl (F.2.2.2.2.2) ?_
          refine jx_ifB_ne 61 dX7_readRule_32 (by decide) (fun h32 => by cases h32) (fun h32 => ?_)
          refine jx_aload_n dX7_readRule_35 rfl ?_
          refine jx_getIE dX7_readRule_36 flX7_27 rfl rfl (F.1.1) ?_
          refine jx_ifN_ne (a := d') 61 dX7_readRule_39 (by decide) (by omega) (fun h39 => ?_) (fun h39 => ?_)
          · have hE : rEnd tp sz X (cs, ws, d', nt', cp', eb', nm', false) = false := by rw [hrE, decide_eq_false h39]; rfl
            exact jx_ls (by exact ⟨rfl, rfl, rfl, trivial⟩) (key2 hE)
          · refine jx_aload_n dX7_readRule_42 rfl ?_
            refine jx_getR dX7_readRule_43 flX7_15 rfl rfl (hR2 _ _ _ rfl) ?_
            refine jx_getIE dX7_readRule_46 flX7_37 rfl rfl (hk0) ?_
            refine jx_bipush (v := 59) dX7_readRule_49 (by decide) ?_
            refine jx_icmpN_ne (a := (kdC tp sz X.1)) (b := 59) 61 dX7_readRule_51 (by decide) (by omega) (by omega) (fun h51 => ?_) (fun h51 => ?_)
            · have hE : rEnd tp sz X (cs, ws, d', nt', cp', eb', nm', false) = false := by rw [hrE, Bool.eq_false_iff.mpr (fun q => h51 (hm.mpr q)), Bool.and_false]
              exact jx_ls (by exact ⟨rfl, rfl, rfl, trivial⟩) (key2 hE)
            · have hE : rEnd tp sz X (cs, ws, d', nt', cp', eb', nm', false) = true := by rw [hrE, hm.mp h51, decide_eq_true h39]; rfl
              rw [if_pos hE] at e5
              refine jx_aload_n dX7_readRule_54 rfl ?_
              refine jx_iconst (v := 1) dX7_readRule_55 (by decide) ?_
              refine jx_VRv (as := [.int _]) dX7_readRule_56 mlX7_42 okX7_release viX7_release rfl rfl rfl rfl rfl (by decide) (Nat.le_of_ble_eq_true rfl) (tX7_release (r := 1) (code := cs) (wt := ws) hW hR2 hh hRt e4.1 e4.2.1 (by decide)) (fun t56 hq56 => ?_)
              obtain ⟨K2, rfl, a2, a3, f2⟩ := hq56
              refine jx_iconst (v := 1) dX7_readRule_59 (by decide) ?_
              refine jx_zret dX7_readRule_60 rfl ?_ ?_
              · first | exact Or.inl rfl | exact Or.inr rfl | exact jb_or _
              have kk : eqK _ K K2 := fun b j a1 a2 a3 a4 => f2 b j a3 a4 (fun q => a1 q.1)
              exact ⟨_, rfl, RuQ_g e5 (eqQ_t e1 (eqK_Q kk)) ⟨cp', (f2 1006 6 (by omega) (by omega) (by decide)).trans F.2.2.1.1, F.2.2.1.2⟩ (e2.k hh kk) a2⟩
  refine jx_aload_n dX7_readRule_0 rfl ?_
  refine jx_aload_n dX7_readRule_1 rfl ?_
  refine jx_putR dX7_readRule_2 flX7_19 rfl ⟨_, rfl⟩ (fun r h => by cases h; rfl) ?_
  rw [hRR]
  refine jx_aload_n dX7_readRule_5 rfl ?_
  refine jx_iconst (v := 0) dX7_readRule_6 (by decide) ?_
  refine jx_putI dX7_readRule_7 flX7_23 rfl rfl (fun r h => by cases h; rfl) ?_
  refine jx_aload_n dX7_readRule_10 rfl ?_
  refine jx_iconst (v := 0) dX7_readRule_11 (by decide) ?_
  refine jx_putI dX7_readRule_12 flX7_27 rfl rfl (fun r h => by cases h; rfl) ?_
  refine jx_aload_n dX7_readRule_15 rfl ?_
  refine jx_VRv (as := []) dX7_readRule_16 mlX7_30 okX7_beginExpr viX7_beginExpr rfl rfl rfl rfl rfl (by decide) (Nat.le_of_ble_eq_true rfl) (tX7_beginExpr (d := 0) (cp := cp) hW hR2 rfl (by decide) hc6 hc7) (fun t16 hq16 => ?_)
  subst hq16
  refine jx_iconst (v := 0) dX7_readRule_19 (by decide) ?_
  refine jx_istore_n dX7_readRule_20 rfl (by decide) ?_
  have k0 : eqK h I (upI (upI (upI (upI (upI (upI (upI I 1006 2 0) 1006 4 0) 1006 7 1) 1006 6 (nI (cpC cp 0))) 1006 5 0) 1006 8 1) 1006 9 1) := eqK_u (eqK_u (eqK_u (eqK_u (eqK_u (eqK_u (eqK_u eqK_r))))))
  have hA0 : RA (upI (upI (upI (upI (upI (upI (upI I 1006 2 0) 1006 4 0) 1006 7 1) 1006 6 (nI (cpC cp 0))) 1006 5 0) 1006 8 1) 1006 9 1) h [] := hA.f (J := upI (upI (upI (upI (upI (upI (upI I 1006 2 0) 1006 4 0) 1006 7 1) 1006 6 (nI (cpC cp 0))) 1006 5 0) 1006 8 1) 1006 9 1) (fun j => by rw [upI_nea (by omega), upI_nea (by omega), upI_nea (by omega), upI_nea (by omega), upI_nea (by omega), upI_nea (by omega), upI_nea (by omega)]) (fun j => by rw [upI_nea (by omega), upI_nea (by omega), upI_nea (by omega), upI_nea (by omega), upI_nea (by omega), upI_nea (by omega), upI_nea (by omega)])
  exact jx_ls (by exact ⟨rfl, rfl, rfl, trivial⟩) (key 701 0 rfl _ x [] [] 0 0 (cpC cp 0) true true true (eqK_Q k0) (hx.k hh k0) h0 ⟨hA0, ⟨rfl, Nat.zero_le _, fun k hk => absurd hk (Nat.not_lt_zero k)⟩, ⟨rfl, Nat.zero_le _, fun _ => ⟨rfl, rfl⟩⟩, ⟨rfl, Nat.zero_le _⟩, ⟨rfl, (cp_1 cp hc7 0 (by decide)).1⟩, rfl, rfl, rfl⟩ hres.symm)
end CZ12
