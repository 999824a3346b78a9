/-! THE CLASS: heirs -/
def cmg (T : Nat → Nat → Int32) (W H len p : Nat) : Option Nat := (fnd (cnD T W H len p) 41).map (fun d => d * 96 + sn0 T W H len p d)
section CV1
variable {w : jWD} {l : Launch} {n : Nat} {I : Nat → Nat → Int32} {L : Nat → Nat → Int64} {R : Nat → Nat → Option Nat}

set_option maxHeartbeats 1000000 in
set_option maxRecDepth 20000 in
theorem tX4_comingOf (hW : jWok w l) (hR : RS R) {h : Nat} {T : Nat → Nat → Int32} {W H np len : Nat} (hC : CF I L R h T W H np len) {p : Nat} (hp : p < np) : jRi w l mX4_comingOf 7 [.ref 1046, .int (nI p)] (n, shE, I, L, R) (fun r t => r = oI (cmg T W H len p) ∧ ∃ J M, t = (n, shE, J, M, R) ∧ eqC I J ∧ eqCL L M ∧ CF J M R h T W H np len) := by
  refine jRi_of hW (by decide) rfl (Nat.le_of_ble_eq_true rfl) ?_
  have hC0 := hC
  obtain ⟨⟨hh, hRi⟩, hI, hRI, -, -, -⟩ := hC
  have hp6 : p < 6 := Nat.lt_of_lt_of_le hp hRI.2.2.2.2.1.2
  have hdd := (hRI.2.2.2.2.2.1 p hp).2.2.2.2.1
  have hdd2 := hdd.2
  have key : ∀ d, d ≤ 41 → cN (T 1080 p) ≤ d → ∀ (J : Nat → Nat → Int32) (M : Nat → Nat → Int64), eqC I J → eqCL L M → CF J M R h T W H np len → (∀ j, j < d → cnD T W H len p j = false) → jWP w l mX4_comingOf 7 0 0 (fun v t => ∃ r, v = some (.int r) ∧ (r = oI (cmg T W H len p) ∧ ∃ J M, t = (n, shE, J, M, R) ∧ eqC I J ∧ eqCL L M ∧ CF J M R h T W H np len)) (fun _ _ => False) 16 [(0, .ref 1046), (1, .int (nI p)), (2, .int (nI d))] [] (n, shE, J, M, R) := by
    refine jdown _ (fun d hd ih => ?_)
    intro hdl J M e1 e2 hC hj
    refine jx_iload_n dX4_comingOf_16 rfl ?_
    refine jx_bipush (v := 41) dX4_comingOf_17 (by decide) ?_
    refine jx_icmpN_ge (a := d) (b := 41) 50 dX4_comingOf_19 (by decide) (by omega) (by omega) (fun h19 => ?_) (fun h19 => ?_)
    · refine jx_iconst (v := -1) dX4_comingOf_50 (by decide) ?_
      refine jx_iret dX4_comingOf_51 rfl ?_
      refine ⟨_, rfl, ?_, J, M, rfl, e1, e2, hC⟩
      unfold cmg
      rw [fnd_none.mpr (fun j hj2 => hj j (by omega))]
      rfl
    · refine jx_aload_n dX4_comingOf_22 rfl ?_
      refine jx_getR dX4_comingOf_23 flX4_26 rfl rfl (hR _ _ _ rfl) ?_
      refine jx_iload_n dX4_comingOf_26 rfl ?_
      refine jx_iload_n dX4_comingOf_27 rfl ?_
      refine jx_VRi (as := [.int _, .int _]) dX4_comingOf_28 mlX4_54 okX0_soonest viX0_soonest rfl rfl rfl rfl rfl (by decide) (Nat.le_of_ble_eq_true rfl) (tX0_soonest hW hR hC hp (day := d) (by omega)) (fun x28 t28 hq28 => ?_)
      obtain ⟨rfl, J2, M2, rfl, f1, f2, hC2⟩ := hq28
      have ha1 := arr_le T W H len d (T 1072 7) p 0 0
      have hm1 := aI_m (v := arr T W H len d (T 1072 7) p 0 0) (by omega)
      refine jx_istore_n dX4_comingOf_31 rfl (by decide) ?_
      refine jx_iload_n dX4_comingOf_32 rfl ?_
      refine jx_iconst (v := -1) dX4_comingOf_33 (by decide) ?_
      refine jx_icmp_eq 44 dX4_comingOf_34 (by decide) (fun h34 => ?_) (fun h34 => ?_)
      · refine jx_iinc dX4_comingOf_44 rfl (v := nI (d + 1)) (nI_1 _) (by decide) ?_
        refine jx_goto 16 dX4_comingOf_47 (by decide) ?_
        exact jx_ls (by exact ⟨rfl, rfl, rfl, trivial⟩) (ih (by omega) (by omega) J2 M2 (eqC_t e1 f1) (eqCL_t e2 f2) hC2 (fun j hj2 => by
          by_cases z : j = d
          · rw [z]; unfold cnD sn0; rw [decide_eq_true (hm1.mp h34)]; simp
          · exact hj j (by omega)))
      · have hne : ¬ arr T W H len d (T 1072 7) p 0 0 = 1000 := fun q => h34 (hm1.mpr q)
        rw [aI_v hne]
        refine jx_iload_n dX4_comingOf_37 rfl ?_
        refine jx_bipush (v := 96) dX4_comingOf_38 (by decide) ?_
        refine jx_imulE (z := nI (d * 96)) dX4_comingOf_40 (pk_mul d 96) ?_
        refine jx_iload_n dX4_comingOf_41 rfl ?_
        refine jx_iaddE (z := nI ((d * 96) + (arr T W H len d (T 1072 7) p 0 0))) dX4_comingOf_42 (nI_add (d * 96) (arr T W H len d (T 1072 7) p 0 0)) ?_
        refine jx_iret dX4_comingOf_43 rfl ?_
        refine ⟨_, rfl, ?_, J2, M2, rfl, eqC_t e1 f1, eqCL_t e2 f2, hC2⟩
        have hg : cnD T W H len p d = true := by unfold cnD sn0; rw [decide_eq_true hdl, decide_eq_false hne]; rfl
        unfold cmg
        rw [fnd_some.mpr ⟨by omega, hg, hj⟩]
        rfl
  rcases hh with rfl | rfl
  all_goals
    refine jx_aload_n dX4_comingOf_0 rfl ?_
    refine jx_getR dX4_comingOf_1 flX4_26 rfl rfl (hR _ _ _ rfl) ?_
    refine jx_getR dX4_comingOf_4 flX4_30 rfl rfl hRi ?_
    refine jx_getR dX4_comingOf_7 flX4_42 rfl rfl (hR _ _ _ rfl) ?_
    refine jx_iload_n dX4_comingOf_10 rfl ?_
    refine jx_aald5N (p) dX4_comingOf_11 rfl (rfl) (by omega) (by decide) (hR _ _ _ (by first | exact rtPa _ hp6 | exact rtPb _ hp6)) ?_
    refine jx_getIE dX4_comingOf_12 flX4_46 (by first | exact shPa _ hp6 | exact shPb _ hp6) rfl ((hI.2.2.1.2 p 4 hp (by decide)).trans hdd.1) ?_
    refine jx_istore_n dX4_comingOf_15 rfl (by decide) ?_
    exact jx_ls (by exact ⟨rfl, rfl, rfl, trivial⟩) (key _ (by omega) (Nat.le_refl _) I L (eqC_r I) (eqCL_r L) hC0 (fun j hj => by unfold cnD; rw [decide_eq_false (by omega)]; rfl))
set_option maxHeartbeats 1000000 in
set_option maxRecDepth 20000 in
theorem tX4_rankOf (hW : jWok w l) (hR : RS R) {h : Nat} {T : Nat → Nat → Int32} {W H np len : Nat} (hC : CF I L R h T W H np len) {p : Nat} (hp : p < np) : jRi w l mX4_rankOf 8 [.ref 1046, .int (nI p)] (n, shE, I, L, R) (fun r t => r = heirV T W H np len p ∧ ∃ J M, t = (n, shE, J, M, R) ∧ eqC I J ∧ eqCL L M ∧ CF J M R h T W H np len) := by
  refine jRi_of hW (by decide) rfl (Nat.le_of_ble_eq_true rfl) ?_
  have hC0 := hC
  obtain ⟨⟨hh, hRi⟩, -, hRI, -, -, -⟩ := hC
  have hn6 := hRI.2.2.2.2.1.2
  have hck : ∀ q, hKey T W H len q = (cmg T W H len q).map (fun v => v * 6 + q) := fun q => by
    unfold hKey cmg
    cases fnd (cnD T W H len q) 41 with
    | none => rfl
    | some d => show some ((96 * d + _) * 6 + q) = some ((d * 96 + _) * 6 + q); rw [Nat.mul_comm 96 d]
  have hcl : ∀ q v, cmg T W H len q = some v → v < 41 * 1096 := fun q v h => by
    unfold cmg at h
    cases e : fnd (cnD T W H len q) 41 with
    | none => rw [e] at h; cases h
    | some d =>
      rw [e] at h
      have h : d * 96 + sn0 T W H len q d = v := Option.some.inj h
      have h1 := fnd_lt e
      have h2 : sn0 T W H len q d ≤ 1000 := arr_le _ _ _ _ _ _ _ _ _
      omega
  have key : ∀ own, cmg T W H len p = some own → ∀ k, k ≤ np → ∀ (J : Nat → Nat → Int32) (M : Nat → Nat → Int64), eqC I J → eqCL L M → CF J M R h T W H np len → jWP w l mX4_rankOf 8 0 0 (fun v t => ∃ r, v = some (.int r) ∧ (r = heirV T W H np len p ∧ ∃ J M, t = (n, shE, J, M, R) ∧ eqC I J ∧ eqCL L M ∧ CF J M R h T W H np len)) (fun _ _ => False) 18 [(0, .ref 1046), (1, .int (nI p)), (2, .int (nI own)), (3, .int (nI (cntN (hLess T W H len (own * 6 + p)) k))), (4, .int (nI k))] [] (n, shE, J, M, R) := by
    intro own hown
    have hol := hcl p own hown
    refine jdown _ (fun k hk ih => ?_)
    intro J M e1 e2 hC
    have hcn : cntN (hLess T W H len (own * 6 + p)) k ≤ k := cntN_le _ k
    rcases hh with rfl | rfl
    all_goals
    refine jx_iload dX4_rankOf_18 rfl ?_
    refine jx_aload_n dX4_rankOf_20 rfl ?_
    refine jx_getR dX4_rankOf_21 flX4_26 rfl rfl (hR _ _ _ rfl) ?_
    refine jx_getR dX4_rankOf_24 flX4_30 rfl rfl hRi ?_
    refine jx_getIE dX4_rankOf_27 flX4_36 rfl rfl (hC.2.1.2.2.1.1) ?_
    refine jx_icmpN_ge (a := k) (b := np) 74 dX4_rankOf_30 (by decide) (by omega) (by omega) (fun h30 => ?_) (fun h30 => ?_)
    · refine jx_iload_n dX4_rankOf_74 rfl ?_
      refine jx_iret dX4_rankOf_75 rfl ?_
      have hkn : k = np := by omega
      subst hkn
      refine ⟨_, rfl, ?_, J, M, rfl, e1, e2, hC⟩
      unfold heirV
      rw [hck, hown]
      rfl
    · refine jx_aload_n dX4_rankOf_33 rfl ?_
      refine jx_iload dX4_rankOf_34 rfl ?_
      refine jx_VRi (as := [.int _]) dX4_rankOf_36 mlX4_101 okX4_comingOf viX4_comingOf rfl rfl rfl rfl rfl (by decide) (Nat.le_of_ble_eq_true rfl) (tX4_comingOf hW hR hC (p := k) (by omega)) (fun x36 t36 hq36 => ?_)
      obtain ⟨rfl, J2, M2, rfl, f1, f2, hC2⟩ := hq36
      refine jx_istore dX4_rankOf_39 (by decide) ?_
      cases hco : cmg T W H len k with
      | none =>
        refine jx_iload dX4_rankOf_41 rfl ?_
        refine jx_iconst (v := -1) dX4_rankOf_43 (by decide) ?_
        refine jx_icmp_eq 68 dX4_rankOf_44 (by decide) (fun h44 => ?_) (fun h44 => ?_)
        · refine jx_iinc dX4_rankOf_68 rfl (v := nI (k + 1)) (nI_1 _) (by decide) ?_
          refine jx_goto 18 dX4_rankOf_71 (by decide) ?_
          have hl : hLess T W H len (own * 6 + p) k = false := by
            unfold hLess
            rw [hck, hco]
            rfl
          have c1 : cntN (hLess T W H len (own * 6 + p)) (k + 1) = cntN (hLess T W H len (own * 6 + p)) k := by rw [cntN, if_neg (by rw [hl]; decide), Nat.add_zero]
          have kk := ih (by omega) J2 M2 (eqC_t e1 f1) (eqCL_t e2 f2) hC2
          rw [c1] at kk
          exact jx_ls (by exact ⟨rfl, rfl, rfl, rfl, rfl, trivial⟩) kk
        · exact absurd rfl h44
      | some v =>
        have hvl := hcl k v hco
        refine jx_iload dX4_rankOf_41 rfl ?_
        refine jx_iconst (v := -1) dX4_rankOf_43 (by decide) ?_
        refine jx_icmp_eq 68 dX4_rankOf_44 (by decide) (fun h44 => ?_) (fun h44 => ?_)
        · exact absurd h44 (fun q => by
            have q2 := congrArg Int32.toInt (show nI v = -1 from q)
            rw [nI_toInt (by omega)] at q2
            have : (-1 : Int32).toInt = -1 := by decide
            omega)
        · refine jx_iload dX4_rankOf_47 rfl ?_
          refine jx_iload_n dX4_rankOf_49 rfl ?_
          refine jx_icmpN_lt (a := v) (b := own) 65 dX4_rankOf_50 (by decide) (by omega) (by omega) (fun h50 => ?_) (fun h50 => ?_)
          · skip
            refine jx_iinc dX4_rankOf_65 rfl (v := nI ((cntN (hLess T W H len (own * 6 + p)) k) + 1)) (nI_1 _) (by decide) ?_
            refine jx_iinc dX4_rankOf_68 rfl (v := nI (k + 1)) (nI_1 _) (by decide) ?_
            refine jx_goto 18 dX4_rankOf_71 (by decide) ?_
            have hl : hLess T W H len (own * 6 + p) k = true := by
              unfold hLess
              rw [hck, hco]
              show decide (v * 6 + k < own * 6 + p) = true
              exact decide_eq_true (by omega)
            have c1 : cntN (hLess T W H len (own * 6 + p)) (k + 1) = cntN (hLess T W H len (own * 6 + p)) k + 1 := by rw [cntN, if_pos hl]
            have kk := ih (by omega) J2 M2 (eqC_t e1 f1) (eqCL_t e2 f2) hC2
            rw [c1] at kk
            exact jx_ls (by exact ⟨rfl, rfl, rfl, rfl, rfl, trivial⟩) kk
          · refine jx_iload dX4_rankOf_53 rfl ?_
            refine jx_iload_n dX4_rankOf_55 rfl ?_
            refine jx_icmpN_ne (a := v) (b := own) 68 dX4_rankOf_56 (by decide) (by omega) (by omega) (fun h56 => ?_) (fun h56 => ?_)
            · refine jx_iinc dX4_rankOf_68 rfl (v := nI (k + 1)) (nI_1 _) (by decide) ?_
              refine jx_goto 18 dX4_rankOf_71 (by decide) ?_
              have hl : hLess T W H len (own * 6 + p) k = false := by
                unfold hLess
                rw [hck, hco]
                show decide (v * 6 + k < own * 6 + p) = false
                exact decide_eq_false (by omega)
              have c1 : cntN (hLess T W H len (own * 6 + p)) (k + 1) = cntN (hLess T W H len (own * 6 + p)) k := by rw [cntN, if_neg (by rw [hl]; decide), Nat.add_zero]
              have kk := ih (by omega) J2 M2 (eqC_t e1 f1) (eqCL_t e2 f2) hC2
              rw [c1] at kk
              exact jx_ls (by exact ⟨rfl, rfl, rfl, rfl, rfl, trivial⟩) kk
            · refine jx_iload dX4_rankOf_59 rfl ?_
              refine jx_iload_n dX4_rankOf_61 rfl ?_
              refine jx_icmpN_ge (a := k) (b := p) 68 dX4_rankOf_62 (by decide) (by omega) (by omega) (fun h62 => ?_) (fun h62 => ?_)
              · refine jx_iinc dX4_rankOf_68 rfl (v := nI (k + 1)) (nI_1 _) (by decide) ?_
                refine jx_goto 18 dX4_rankOf_71 (by decide) ?_
                have hl : hLess T W H len (own * 6 + p) k = false := by
                  unfold hLess
                  rw [hck, hco]
                  show decide (v * 6 + k < own * 6 + p) = false
                  exact decide_eq_false (by omega)
                have c1 : cntN (hLess T W H len (own * 6 + p)) (k + 1) = cntN (hLess T W H len (own * 6 + p)) k := by rw [cntN, if_neg (by rw [hl]; decide), Nat.add_zero]
                have kk := ih (by omega) J2 M2 (eqC_t e1 f1) (eqCL_t e2 f2) hC2
                rw [c1] at kk
                exact jx_ls (by exact ⟨rfl, rfl, rfl, rfl, rfl, trivial⟩) kk
              · skip
                refine jx_iinc dX4_rankOf_65 rfl (v := nI ((cntN (hLess T W H len (own * 6 + p)) k) + 1)) (nI_1 _) (by decide) ?_
                refine jx_iinc dX4_rankOf_68 rfl (v := nI (k + 1)) (nI_1 _) (by decide) ?_
                refine jx_goto 18 dX4_rankOf_71 (by decide) ?_
                have hl : hLess T W H len (own * 6 + p) k = true := by
                  unfold hLess
                  rw [hck, hco]
                  show decide (v * 6 + k < own * 6 + p) = true
                  exact decide_eq_true (by omega)
                have c1 : cntN (hLess T W H len (own * 6 + p)) (k + 1) = cntN (hLess T W H len (own * 6 + p)) k + 1 := by rw [cntN, if_pos hl]
                have kk := ih (by omega) J2 M2 (eqC_t e1 f1) (eqCL_t e2 f2) hC2
                rw [c1] at kk
                exact jx_ls (by exact ⟨rfl, rfl, rfl, rfl, rfl, trivial⟩) kk
  refine jx_aload_n dX4_rankOf_0 rfl ?_
  refine jx_iload_n dX4_rankOf_1 rfl ?_
  refine jx_VRi (as := [.int _]) dX4_rankOf_2 mlX4_101 okX4_comingOf viX4_comingOf rfl rfl rfl rfl rfl (by decide) (Nat.le_of_ble_eq_true rfl) (tX4_comingOf hW hR hC0 hp) (fun x2 t2 hq2 => ?_)
  obtain ⟨rfl, J, M, rfl, e1, e2, hC⟩ := hq2
  refine jx_istore_n dX4_rankOf_5 rfl (by decide) ?_
  cases hown : cmg T W H len p with
  | none =>
    refine jx_iload_n dX4_rankOf_6 rfl ?_
    refine jx_iconst (v := -1) dX4_rankOf_7 (by decide) ?_
    refine jx_icmp_ne 13 dX4_rankOf_8 (by decide) (fun h8 => ?_) (fun h8 => ?_)
    · exact absurd rfl h8
    · refine jx_iconst (v := -1) dX4_rankOf_11 (by decide) ?_
      refine jx_iret dX4_rankOf_12 rfl ?_
      refine ⟨_, rfl, ?_, J, M, rfl, e1, e2, hC⟩
      unfold heirV
      rw [hck, hown]
      rfl
  | some own =>
    have hvl := hcl p own hown
    refine jx_iload_n dX4_rankOf_6 rfl ?_
    refine jx_iconst (v := -1) dX4_rankOf_7 (by decide) ?_
    refine jx_icmp_ne 13 dX4_rankOf_8 (by decide) (fun h8 => ?_) (fun h8 => ?_)
    · refine jx_iconst (v := 0) dX4_rankOf_13 (by decide) ?_
      refine jx_istore_n dX4_rankOf_14 rfl (by decide) ?_
      refine jx_iconst (v := 0) dX4_rankOf_15 (by decide) ?_
      refine jx_istore dX4_rankOf_16 (by decide) ?_
      exact jx_ls (by exact ⟨rfl, rfl, rfl, rfl, rfl, trivial⟩) (key own hown 0 (by omega) J M e1 e2 hC)
    · exact absurd h8 (fun q => by
        have q2 := congrArg Int32.toInt (show nI own = -1 from q)
        rw [nI_toInt (by omega)] at q2
        have : (-1 : Int32).toInt = -1 := by decide
        omega)
set_option maxHeartbeats 1000000 in
set_option maxRecDepth 20000 in
theorem tX10_heir (hW : jWok w l) (hR : RS R) {h : Nat} {T : Nat → Nat → Int32} {W H np len : Nat} (hX : CX I L R h T W H np len) {p : Nat} (hp : p < np) : jQ w l mX10_heir 9 [.ref 1000, .int (nI p)] n I L R h T W H np len (heirV T W H np len p) := by
  refine jRi_of hW (by decide) rfl (Nat.le_of_ble_eq_true rfl) ?_
  have hX0 := hX
  obtain ⟨⟨⟨hh, hRi⟩, hI, hRI, hok, hFL, hSK⟩, hRh⟩ := hX
  have hT := RI.tq hRI
  have hw := hT.1
  have hhh := hT.2.1
  have hwh : W * H ≤ 63 := Nat.mul_le_mul hw.2 hhh.2
  have hn6 := hRI.2.2.2.2.1.2
  refine jx_aload_n dX10_heir_0 rfl ?_
  refine jx_iload_n dX10_heir_1 rfl ?_
  refine jx_Vv (as := [.int _]) dX10_heir_2 mlX10_188 okX10_needParty viX10_needParty rfl rfl rfl rfl rfl (by decide) (Nat.le_of_ble_eq_true rfl) (tX10_needParty hW hR hX0 hp) ?_
  refine jx_aload_n dX10_heir_5 rfl ?_
  refine jx_getR dX10_heir_6 flX10_53 rfl rfl (hR _ _ _ rfl) ?_
  refine jx_iload_n dX10_heir_9 rfl ?_
  refine jx_VRi (as := [.int _]) dX10_heir_10 mlX10_314 okX4_rankOf viX4_rankOf rfl rfl rfl rfl rfl (by decide) (Nat.le_of_ble_eq_true rfl) (tX4_rankOf hW hR hX0.1 hp) (fun x10 t10 hq10 => ?_)
  obtain ⟨rfl, J, M, rfl, e1, e2, hC⟩ := hq10
  refine jx_iret dX10_heir_13 rfl ?_
  exact ⟨_, rfl, rfl, J, M, rfl, e1, e2, hC, hRh⟩
set_option maxHeartbeats 1000000 in
set_option maxRecDepth 20000 in
theorem tX10_heirF (hW : jWok w l) (hR : RS R) {h : Nat} {T : Nat → Nat → Int32} {W H np len : Nat} (hX : CX I L R h T W H np len) (p : Int32) (hbad : ¬ (ltQ p np = true)) : jTh w l mX10_heir 3 [.ref 1000, .int p] n I L R eN := by
  refine jTh_of hW (by decide) rfl (Nat.le_of_ble_eq_true rfl) ?_
  by_cases q0 : ltQ p np = true
  · obtain ⟨p', rfl, hv0⟩ := ltQ_n q0
    exact absurd q0 hbad
  · refine jx_aload_n dX10_heir_0 rfl ?_
    refine jx_iload_n dX10_heir_1 rfl ?_
    exact jx_VT (as := [.int _]) dX10_heir_2 mlX10_188 okX10_needParty viX10_needParty rfl rfl rfl rfl rfl (by decide) (Nat.le_of_ble_eq_true rfl) (by decide) (by decide) (tX10_needPartyF hW hR hX (fun z => q0 (decide_eq_true z))) (fun E t h => h)
set_option maxHeartbeats 1000000 in
set_option maxRecDepth 20000 in
theorem tX10_queueF (hW : jWok w l) (hR : RS R) {h : Nat} {T : Nat → Nat → Int32} {W H np len : Nat} (hX : CX I L R h T W H np len) (p : Int32) (hbad : ¬ (ltQ p np = true)) : jTh w l mX10_queue 3 [.ref 1000, .int p] n I L R eN := by
  refine jTh_of hW (by decide) rfl (Nat.le_of_ble_eq_true rfl) ?_
  by_cases q0 : ltQ p np = true
  · obtain ⟨p', rfl, hv0⟩ := ltQ_n q0
    exact absurd q0 hbad
  · refine jx_aload_n dX10_queue_0 rfl ?_
    refine jx_iload_n dX10_queue_1 rfl ?_
    exact jx_VT (as := [.int _]) dX10_queue_2 mlX10_188 okX10_needParty viX10_needParty rfl rfl rfl rfl rfl (by decide) (Nat.le_of_ble_eq_true rfl) (by decide) (by decide) (tX10_needPartyF hW hR hX (fun z => q0 (decide_eq_true z))) (fun E t h => h)
end CV1
