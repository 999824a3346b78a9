/-! THE REFERENCE: heirs, the hastiest, quarrels -/
theorem hKey_lt {I : Nat → Nat → Int32} {W H len p k : Nat} (hp : p < 6) (h : hKey I W H len p = some k) : k < 100000 := by
  unfold hKey at h
  cases hf : fnd (cnD I W H len p) 41 with
  | none => rw [hf] at h; cases h
  | some d =>
    rw [hf] at h
    have h1 := fnd_lt hf
    have h2 : sn0 I W H len p d ≤ 1000 := arr_le _ _ _ _ _ _ _ _ _
    have h3 : (96 * d + sn0 I W H len p d) * 6 + p = k := Option.some.inj h
    omega
def hLess (I : Nat → Nat → Int32) (W H len own k : Nat) : Bool := match hKey I W H len k with
  | some x => decide (x < own)
  | none => false
def heirV (I : Nat → Nat → Int32) (W H np len p : Nat) : Int32 := match hKey I W H len p with
  | some own => nI (cntN (hLess I W H len own) np)
  | none => -1
def hst (I : Nat → Nat → Int32) (but : Nat) : Nat → Option Nat
  | 0 => none
  | p + 1 => if but.testBit p = true then hst I but p else match hst I but p with
    | none => some p
    | some b => if cN (I 1080 p) < cN (I 1080 b) then some p else some b
theorem hst_lt {I : Nat → Nat → Int32} {but : Nat} : ∀ {k b : Nat}, hst I but k = some b → b < k ∧ but.testBit b = false
  | 0, b, h => by cases h
  | p + 1, b, h => by
    unfold hst at h
    by_cases e : but.testBit p = true
    · rw [if_pos e] at h
      have := hst_lt h
      exact ⟨by omega, this.2⟩
    · rw [if_neg e] at h
      have e' : but.testBit p = false := by simpa using e
      cases hh : hst I but p with
      | none => rw [hh] at h; cases h; exact ⟨by omega, e'⟩
      | some x =>
        rw [hh] at h
        have hx := hst_lt hh
        simp only at h
        split at h
        · cases h; exact ⟨by omega, e'⟩
        · cases h; exact ⟨by omega, hx.2⟩
section RR
variable {w : jWD} {l : Launch} {n : Nat} {I J : Nat → Nat → Int32} {L : Nat → Nat → Int64} {R : Nat → Nat → Option Nat}

set_option maxHeartbeats 1000000 in
set_option maxRecDepth 20000 in
theorem tX11_heirKey (hW : jWok w l) (hR : RS R) {W H np len p : Nat} (hI : RI I W H np len) (hkp : kp I J) (hdy : DYs I J W H len (41 * np)) (hp : p < np) : jCD w l mX11_heirKey 1 [.ref 1069, .int (nI p)] (n, shE, J, L, R) (some (.int (oI (hKey I W H len p)))) (n, shE, J, L, R) := by
  refine jCD_of hW (by decide) rfl (Nat.le_of_ble_eq_true rfl) ?_
  have hnp := hI.2.2.2.2.1.2
  obtain ⟨-, -, -, -, hk5, -⟩ := hI.2.2.2.2.2.1 p hp
  have hd20 := hk5.2
  have key : ∀ d, d ≤ 41 → cN (I 1080 p) ≤ d → fnd (cnD I W H len p) d = none → jWP w l mX11_heirKey 1 0 0 (fun r t => r = some (.int (oI (hKey I W H len p))) ∧ t = (n, shE, J, L, R)) (fun _ _ => False) 7 [(0, .ref 1069), (1, .int (nI p)), (2, .int (nI d))] [] (n, shE, J, L, R) := by
    refine jdown _ (fun d hd ih => ?_)
    intro hdd hf
    have hsl : sn0 I W H len p d ≤ 1000 := arr_le _ _ _ _ _ _ _ _ _
    refine jx_iload_n dX11_heirKey_7 rfl ?_
    refine jx_bipush (v := 40) dX11_heirKey_8 (by decide) ?_
    refine jx_icmpN_gt (a := d) (b := 40) 52 dX11_heirKey_10 (by decide) (by omega) (by omega) (fun h10 => ?_) (fun h10 => ?_)
    · refine jx_iconst (v := -1) dX11_heirKey_52 (by decide) ?_
      refine jx_iret dX11_heirKey_53 rfl ?_
      have hd41 : d = 41 := by omega
      subst hd41
      refine ⟨?_, rfl⟩
      unfold hKey
      rw [hf]; rfl
    · refine jx_bipush (v := 41) dX11_heirKey_13 (by decide) ?_
      refine jx_iload_n dX11_heirKey_15 rfl ?_
      refine jx_imulE (z := nI (41 * p)) dX11_heirKey_16 (pk_mul 41 p) ?_
      refine jx_iload_n dX11_heirKey_17 rfl ?_
      refine jx_iaddE (z := nI ((41 * p) + d)) dX11_heirKey_18 (nI_add (41 * p) d) ?_
      refine jx_istore_n dX11_heirKey_19 rfl (by decide) ?_
      refine jx_aload_n dX11_heirKey_20 rfl ?_
      refine jx_getR dX11_heirKey_21 flX11_124 rfl rfl (hR _ _ _ rfl) ?_
      refine jx_iload_n dX11_heirKey_24 rfl ?_
      refine jx_zaldE ((41 * p) + d) dX11_heirKey_25 rfl (rfl) (by omega) (by omega) ((hdy p d (by omega) (by omega)).1) ?_
      refine jx_ifB_eq 46 dX11_heirKey_26 (by decide) (fun h26 => ?_) (fun h26 => ?_)
      · refine jx_iinc dX11_heirKey_46 rfl (v := nI (d + 1)) (nI_1 _) (by decide) ?_
        refine jx_goto 7 dX11_heirKey_49 (by decide) ?_
        refine jx_ls (by exact ⟨rfl, rfl, rfl, trivial⟩) (ih (by omega) (by omega) ?_)
        show (match fnd (cnD I W H len p) d with | some t => some t | none => if cnD I W H len p d = true then some d else none) = none
        rw [hf]
        exact if_neg (by rw [h26]; decide)
      · refine jx_bipush (v := 96) dX11_heirKey_29 (by decide) ?_
        refine jx_iload_n dX11_heirKey_31 rfl ?_
        refine jx_imulE (z := nI (96 * d)) dX11_heirKey_32 (pk_mul 96 d) ?_
        refine jx_aload_n dX11_heirKey_33 rfl ?_
        refine jx_getR dX11_heirKey_34 flX11_127 rfl rfl (hR _ _ _ rfl) ?_
        refine jx_iload_n dX11_heirKey_37 rfl ?_
        refine jx_ialdE ((41 * p) + d) dX11_heirKey_38 rfl (rfl) (by omega) (by omega) ((hdy p d (by omega) (by omega)).2 hdd) ?_
        refine jx_iaddE (z := nI ((96 * d) + (sn0 I W H len p d))) dX11_heirKey_39 (nI_add (96 * d) (sn0 I W H len p d)) ?_
        refine jx_bipush (v := 6) dX11_heirKey_40 (by decide) ?_
        refine jx_imulE (z := nI (((96 * d) + (sn0 I W H len p d)) * 6)) dX11_heirKey_42 (pk_mul ((96 * d) + (sn0 I W H len p d)) 6) ?_
        refine jx_iload_n dX11_heirKey_43 rfl ?_
        refine jx_iaddE (z := nI ((((96 * d) + (sn0 I W H len p d)) * 6) + p)) dX11_heirKey_44 (nI_add (((96 * d) + (sn0 I W H len p d)) * 6) p) ?_
        refine jx_iret dX11_heirKey_45 rfl ?_
        refine ⟨?_, rfl⟩
        unfold hKey
        rw [show fnd (cnD I W H len p) 41 = some d from fnd_some.mpr ⟨by omega, h26, fnd_none.mp hf⟩]
        rfl
  refine jx_aload_n dX11_heirKey_0 rfl ?_
  refine jx_getR dX11_heirKey_1 flX11_59 rfl rfl (hR _ _ _ rfl) ?_
  refine jx_iload_n dX11_heirKey_4 rfl ?_
  refine jx_ialdE (p) dX11_heirKey_5 rfl (rfl) (by omega) (by omega) ((congrFun (hkp 1080 (by omega) (by omega)) p).trans hk5.1) ?_
  refine jx_istore_n dX11_heirKey_6 rfl (by decide) ?_
  exact jx_ls (by exact ⟨rfl, rfl, rfl, trivial⟩) (key _ (by omega) (Nat.le_refl _) (fnd_none.mpr (fun t ht => by unfold cnD; rw [decide_eq_false (by omega)]; rfl)))
set_option maxHeartbeats 1000000 in
set_option maxRecDepth 20000 in
theorem tX11_heirF (hW : jWok w l) (hR : RS R) {W H np len : Nat} (hI : RI I W H np len) (p : Int32) (hbad : ¬ (ltQ p np = true)) : jCD w l mX11_heir 3 [.ref 1069, .int p] (n, shE, I, L, R) (some (.int 0)) (n, shE, upI I 1069 2 1, L, R) := by
  refine jCD_of hW (by decide) rfl (Nat.le_of_ble_eq_true rfl) ?_
  have hI0 := hI.kp (k0 I)
  refine jx_aload_n dX11_heir_0 rfl ?_
  refine jx_iconst (v := 0) dX11_heir_1 (by decide) ?_
  refine jx_putI dX11_heir_2 flX11_187 rfl rfl (fun r h => by cases h; rfl) ?_
  refine jx_aload_n dX11_heir_5 rfl ?_
  refine jx_iload_n dX11_heir_6 rfl ?_
  refine jx_Vi (as := [.int _]) dX11_heir_7 mlX11_448 okX11_isParty viX11_isParty rfl rfl rfl rfl rfl (by decide) (Nat.le_of_ble_eq_true rfl) (tX11_isParty hW hR (hI0.2.2.2.2.1.1) hI0.2.2.2.2.1.2 _) ?_
  refine jx_ifB_ne 19 dX11_heir_10 (by decide) (fun h10 => ?_) (fun h10 => ?_)
  · exact absurd h10 hbad
  · refine jx_aload_n dX11_heir_13 rfl ?_
    refine jx_iconst (v := 1) dX11_heir_14 (by decide) ?_
    refine jx_Vi (as := [.int _]) dX11_heir_15 mlX11_351 okX11_fail viX11_fail rfl rfl rfl rfl rfl (by decide) (Nat.le_of_ble_eq_true rfl) (tX11_fail hW _) ?_
    refine jx_iret dX11_heir_18 rfl ?_
    exact ⟨rfl, by rw [up_up]⟩
set_option maxHeartbeats 1000000 in
set_option maxRecDepth 20000 in
theorem tX11_heir (hW : jWok w l) (hR : RS R) {W H np len : Nat} (hI : RI I W H np len) {p : Nat} (hp : p < np) : jRi w l mX11_heir 7 [.ref 1069, .int (nI p)] (n, shE, I, L, R) (fun r t => r = heirV I W H np len p ∧ ∃ J, t = (n, shE, J, L, R) ∧ eqs (upI I 1069 2 0) J) := by
  refine jRi_of hW (by decide) rfl (Nat.le_of_ble_eq_true rfl) ?_
  have hI0 := hI.kp (k0 I)
  have hT := hI0.1.1
  have hz := hT.wh
  have hw3 := hT.2.2.1
  have hw9 := hT.2.2.2.1
  have hh1 := hT.2.2.2.2.1
  have hh7 := hT.2.2.2.2.2
  have hnp := hI0.2.2.2.2.1.2
  refine jx_aload_n dX11_heir_0 rfl ?_
  refine jx_iconst (v := 0) dX11_heir_1 (by decide) ?_
  refine jx_putI dX11_heir_2 flX11_187 rfl rfl (fun r h => by cases h; rfl) ?_
  refine jx_aload_n dX11_heir_5 rfl ?_
  refine jx_iload_n dX11_heir_6 rfl ?_
  refine jx_Vi (as := [.int _]) dX11_heir_7 mlX11_448 okX11_isParty viX11_isParty rfl rfl rfl rfl rfl (by decide) (Nat.le_of_ble_eq_true rfl) (tX11_isPartyT hW hR (hI0.2.2.2.2.1.1) hI0.2.2.2.2.1.2 hp) ?_
  refine jx_ifB_ne 19 dX11_heir_10 (by decide) (fun h10 => ?_) (fun h10 => by cases h10)
  refine jx_aload_n dX11_heir_19 rfl ?_
  refine jx_VRv (as := []) dX11_heir_20 mlX11_491 okX11_tellDays viX11_tellDays rfl rfl rfl rfl rfl (by decide) (Nat.le_of_ble_eq_true rfl) (tX11_tellDays hW hR hI0) (fun t20 hq20 => ?_)
  obtain ⟨J1, rfl, he1, hdy0⟩ := hq20
  have hkp := kp_t (k0 I) (eqs_kp he1)
  have hdy : DYs I J1 W H len (41 * np) := fun p d h1 h2 => by
    have := hdy0 p d h1 h2
    rw [cnD_kp (k0 I), sn0_kp (k0 I), k0 I 1080 (by omega) (by omega)] at this
    exact this
  refine jx_aload_n dX11_heir_23 rfl ?_
  refine jx_iload_n dX11_heir_24 rfl ?_
  refine jx_Vi (as := [.int _]) dX11_heir_25 mlX11_500 okX11_heirKey viX11_heirKey rfl rfl rfl rfl rfl (by decide) (Nat.le_of_ble_eq_true rfl) (tX11_heirKey hW hR hI hkp hdy hp) ?_
  cases hx : hKey I W H len p with
  | none =>
    show jWP w l mX11_heir 7 0 0 _ _ 28 _ [.int (-1)] _
    refine jx_istore_n dX11_heir_28 rfl (by decide) ?_
    refine jx_iload_n dX11_heir_29 rfl ?_
    refine jx_iconst (v := -1) dX11_heir_30 (by decide) ?_
    refine jx_icmp_ne 36 dX11_heir_31 (by decide) (fun h31 => ?_) (fun h31 => ?_)
    · exact absurd rfl h31
    · refine jx_iconst (v := -1) dX11_heir_34 (by decide) ?_
      refine jx_iret dX11_heir_35 rfl ?_
      refine ⟨_, rfl, ?_, _, rfl, he1⟩
      unfold heirV
      rw [hx]
  | some own =>
    have hol := hKey_lt (by omega) hx
    show jWP w l mX11_heir 7 0 0 _ _ 28 _ [.int (nI own)] _
    refine jx_istore_n dX11_heir_28 rfl (by decide) ?_
    refine jx_iload_n dX11_heir_29 rfl ?_
    refine jx_iconst (v := -1) dX11_heir_30 (by decide) ?_
    refine jx_icmp_ne 36 dX11_heir_31 (by decide) (fun h31 => ?_) (fun h31 => ?_)
    · refine jx_iconst (v := 0) dX11_heir_36 (by decide) ?_
      refine jx_istore_n dX11_heir_37 rfl (by decide) ?_
      refine jx_iconst (v := 0) dX11_heir_38 (by decide) ?_
      refine jx_istore dX11_heir_39 (by decide) ?_
      have key : ∀ k, k ≤ np → jWP w l mX11_heir 7 0 0 (fun v t => ∃ r, v = some (.int r) ∧ (fun r t => r = heirV I W H np len p ∧ ∃ J, t = (n, shE, J, L, R) ∧ eqs (upI I 1069 2 0) J) r t) (fun _ _ => False) 41 [(0, .ref 1069), (1, .int (nI p)), (2, .int (nI own)), (3, .int (nI (cntN (hLess I W H len own) k))), (4, .int (nI k))] [] (n, shE, J1, L, R) := by
        refine jdown _ (fun k hk ih => ?_)
        have hcl := cntN_le (hLess I W H len own) k
        refine jx_iload dX11_heir_41 rfl ?_
        refine jx_aload_n dX11_heir_43 rfl ?_
        refine jx_getR dX11_heir_44 flX11_34 rfl rfl (hR _ _ _ rfl) ?_
        refine jx_bipush (v := 10) dX11_heir_47 (by decide) ?_
        refine jx_ialdE (10) dX11_heir_49 rfl (rfl) (by omega) (by omega) ((congrFun (hkp 1072 (by omega) (by omega)) 10).trans hI.2.2.2.2.1.1) ?_
        refine jx_icmpN_ge (a := k) (b := np) 87 dX11_heir_50 (by decide) (by omega) (by omega) (fun h50 => ?_) (fun h50 => ?_)
        · refine jx_iload_n dX11_heir_87 rfl ?_
          refine jx_iret dX11_heir_88 rfl ?_
          have hkn : k = np := by omega
          subst hkn
          refine ⟨_, rfl, ?_, _, rfl, he1⟩
          unfold heirV
          rw [hx]
        · refine jx_iload_n dX11_heir_53 rfl ?_
          refine jx_aload_n dX11_heir_54 rfl ?_
          refine jx_iload dX11_heir_55 rfl ?_
          refine jx_Vi (as := [.int _]) dX11_heir_57 mlX11_500 okX11_heirKey viX11_heirKey rfl rfl rfl rfl rfl (by decide) (Nat.le_of_ble_eq_true rfl) (tX11_heirKey hW hR hI hkp hdy h50) ?_
          cases hy : hKey I W H len k with
          | none =>
            show jWP w l mX11_heir 7 0 0 _ _ 60 _ [.int (-1), .int (nI (cntN (hLess I W H len own) k))] _
            refine jx_iconst (v := -1) dX11_heir_60 (by decide) ?_
            refine jx_icmp_eq 78 dX11_heir_61 (by decide) (fun h61 => ?_) (fun h61 => ?_)
            · refine jx_iconst (v := 0) dX11_heir_78 (by decide) ?_
              refine jx_iaddE (z := nI ((cntN (hLess I W H len own) k) + 0)) dX11_heir_79 (nI_add (cntN (hLess I W H len own) k) 0) ?_
              refine jx_istore_n dX11_heir_80 rfl (by decide) ?_
              refine jx_iinc dX11_heir_81 rfl (v := nI (k + 1)) (nI_1 _) (by decide) ?_
              refine jx_goto 41 dX11_heir_84 (by decide) ?_
              have kk := ih h50
              rw [show cntN (hLess I W H len own) (k + 1) = cntN (hLess I W H len own) k + 0 from by
                show cntN (hLess I W H len own) k + (if (hLess I W H len own) k = true then 1 else 0) = _
                have hl : (hLess I W H len own) k = false := by unfold hLess; rw [hy]
                rw [hl]; rfl] at kk
              exact jx_ls (by exact ⟨rfl, rfl, rfl, rfl, rfl, trivial⟩) kk
            · exact absurd rfl h61
          | some x =>
            have hxl := hKey_lt (by omega) hy
            show jWP w l mX11_heir 7 0 0 _ _ 60 _ [.int (nI x), .int (nI (cntN (hLess I W H len own) k))] _
            refine jx_iconst (v := -1) dX11_heir_60 (by decide) ?_
            refine jx_icmp_eq 78 dX11_heir_61 (by decide) (fun h61 => ?_) (fun h61 => ?_)
            · exfalso
              have e2 := congrArg Int32.toInt h61
              rw [nI_toInt (by omega), show (-1 : Int32).toInt = -1 from by decide] at e2
              omega
            · refine jx_aload_n dX11_heir_64 rfl ?_
              refine jx_iload dX11_heir_65 rfl ?_
              refine jx_Vi (as := [.int _]) dX11_heir_67 mlX11_500 okX11_heirKey viX11_heirKey rfl rfl rfl rfl rfl (by decide) (Nat.le_of_ble_eq_true rfl) (tX11_heirKey hW hR hI hkp hdy h50) ?_
              rw [hy]
              show jWP w l mX11_heir 7 0 0 _ _ 70 _ [.int (nI x), .int (nI (cntN (hLess I W H len own) k))] _
              refine jx_iload_n dX11_heir_70 rfl ?_
              refine jx_icmpN_ge (a := x) (b := own) 78 dX11_heir_71 (by decide) (by omega) (by omega) (fun h71 => ?_) (fun h71 => ?_)
              · refine jx_iconst (v := 0) dX11_heir_78 (by decide) ?_
                refine jx_iaddE (z := nI ((cntN (hLess I W H len own) k) + 0)) dX11_heir_79 (nI_add (cntN (hLess I W H len own) k) 0) ?_
                refine jx_istore_n dX11_heir_80 rfl (by decide) ?_
                refine jx_iinc dX11_heir_81 rfl (v := nI (k + 1)) (nI_1 _) (by decide) ?_
                refine jx_goto 41 dX11_heir_84 (by decide) ?_
                have kk := ih h50
                rw [show cntN (hLess I W H len own) (k + 1) = cntN (hLess I W H len own) k + 0 from by
                  show cntN (hLess I W H len own) k + (if (hLess I W H len own) k = true then 1 else 0) = _
                  have hl : (hLess I W H len own) k = false := by unfold hLess; rw [hy]; exact decide_eq_false (by omega)
                  rw [hl]; rfl] at kk
                exact jx_ls (by exact ⟨rfl, rfl, rfl, rfl, rfl, trivial⟩) kk
              · refine jx_iconst (v := 1) dX11_heir_74 (by decide) ?_
                refine jx_goto 79 dX11_heir_75 (by decide) ?_
                refine jx_iaddE (z := nI ((cntN (hLess I W H len own) k) + 1)) dX11_heir_79 (nI_add (cntN (hLess I W H len own) k) 1) ?_
                refine jx_istore_n dX11_heir_80 rfl (by decide) ?_
                refine jx_iinc dX11_heir_81 rfl (v := nI (k + 1)) (nI_1 _) (by decide) ?_
                refine jx_goto 41 dX11_heir_84 (by decide) ?_
                have kk := ih h50
                rw [show cntN (hLess I W H len own) (k + 1) = cntN (hLess I W H len own) k + 1 from by
                  show cntN (hLess I W H len own) k + (if (hLess I W H len own) k = true then 1 else 0) = _
                  have hl : (hLess I W H len own) k = true := by unfold hLess; rw [hy]; exact decide_eq_true h71
                  rw [hl]; rfl] at kk
                exact jx_ls (by exact ⟨rfl, rfl, rfl, rfl, rfl, trivial⟩) kk
      exact jx_ls (by exact ⟨rfl, rfl, rfl, rfl, rfl, trivial⟩) (key 0 (by omega))
    · exfalso
      have e2 := congrArg Int32.toInt h31
      rw [nI_toInt (by omega), show (-1 : Int32).toInt = -1 from by decide] at e2
      omega
set_option maxHeartbeats 1000000 in
set_option maxRecDepth 20000 in
theorem tX11_hastiest (hW : jWok w l) (hR : RS R) {W H np len but : Nat} (hI : RI I W H np len) (hkp : kp I J) (hb : but < 64) : jCD w l mX11_hastiest 1 [.ref 1069, .int (nI but)] (n, shE, J, L, R) (some (.int (oI (hst I but np)))) (n, shE, J, L, R) := by
  refine jCD_of hW (by decide) rfl (Nat.le_of_ble_eq_true rfl) ?_
  have hnp := hI.2.2.2.2.1.2
  have hdi : ∀ p, p < np → J 1080 p = nI (cN (I 1080 p)) ∧ cN (I 1080 p) ≤ 20 := fun p hp => ⟨(congrFun (hkp 1080 (by omega) (by omega)) p).trans (hI.2.2.2.2.2.1 p hp).2.2.2.2.1.1, (hI.2.2.2.2.2.1 p hp).2.2.2.2.1.2⟩
  have key : ∀ p, p ≤ np → jWP w l mX11_hastiest 1 0 0 (fun r t => r = some (.int (oI (hst I but np))) ∧ t = (n, shE, J, L, R)) (fun _ _ => False) 4 [(0, .ref 1069), (1, .int (nI but)), (2, .int (oI (hst I but p))), (3, .int (nI p))] [] (n, shE, J, L, R) := by
    refine jdown _ (fun p hp ih => ?_)
    refine jx_iload_n dX11_hastiest_4 rfl ?_
    refine jx_aload_n dX11_hastiest_5 rfl ?_
    refine jx_getR dX11_hastiest_6 flX11_34 rfl rfl (hR _ _ _ rfl) ?_
    refine jx_bipush (v := 10) dX11_hastiest_9 (by decide) ?_
    refine jx_ialdE (10) dX11_hastiest_11 rfl (rfl) (by omega) (by omega) ((congrFun (hkp 1072 (by omega) (by omega)) 10).trans hI.2.2.2.2.1.1) ?_
    refine jx_icmpN_ge (a := p) (b := np) 51 dX11_hastiest_12 (by decide) (by omega) (by omega) (fun h12 => ?_) (fun h12 => ?_)
    · refine jx_iload_n dX11_hastiest_51 rfl ?_
      refine jx_iret dX11_hastiest_52 rfl ?_
      have hpn : p = np := by omega
      subst hpn
      exact ⟨rfl, rfl⟩
    · refine jx_iload_n dX11_hastiest_15 rfl ?_
      refine jx_iload_n dX11_hastiest_16 rfl ?_
      refine jx_ishr dX11_hastiest_17 ?_
      refine jx_iconst (v := 1) dX11_hastiest_18 (by decide) ?_
      refine jx_iandE (z := jb (but.testBit p)) dX11_hastiest_19 (bit_eq hb (by omega)) ?_
      refine jx_ifB_ne 45 dX11_hastiest_20 (by decide) (fun h20 => ?_) (fun h20 => ?_)
      · refine jx_iinc dX11_hastiest_45 rfl (v := nI (p + 1)) (nI_1 _) (by decide) ?_
        refine jx_goto 4 dX11_hastiest_48 (by decide) ?_
        have kk := ih h12
        rw [show hst I but (p + 1) = hst I but p from by
          show (if but.testBit p = true then _ else _) = _
          exact if_pos h20] at kk
        exact jx_ls (by exact ⟨rfl, rfl, rfl, rfl, trivial⟩) kk
      · cases hx : hst I but p with
        | none =>
          show jWP w l mX11_hastiest 1 0 0 _ _ 23 [(0, .ref 1069), (1, .int (nI but)), (2, .int (-1)), (3, .int (nI p))] [] _
          refine jx_iload_n dX11_hastiest_23 rfl ?_
          refine jx_iconst (v := -1) dX11_hastiest_24 (by decide) ?_
          refine jx_icmp_eq 43 dX11_hastiest_25 (by decide) (fun h25 => ?_) (fun h25 => ?_)
          · refine jx_iload_n dX11_hastiest_43 rfl ?_
            refine jx_istore_n dX11_hastiest_44 rfl (by decide) ?_
            refine jx_iinc dX11_hastiest_45 rfl (v := nI (p + 1)) (nI_1 _) (by decide) ?_
            refine jx_goto 4 dX11_hastiest_48 (by decide) ?_
            have kk := ih h12
            rw [show hst I but (p + 1) = some p from by
              show (if but.testBit p = true then _ else _) = _
              rw [if_neg (by rw [h20]; decide), hx]] at kk
            exact jx_ls (by exact ⟨rfl, rfl, rfl, rfl, trivial⟩) kk
          · exact absurd rfl h25
        | some x =>
          have hxl := (hst_lt hx).1
          show jWP w l mX11_hastiest 1 0 0 _ _ 23 [(0, .ref 1069), (1, .int (nI but)), (2, .int (nI x)), (3, .int (nI p))] [] _
          refine jx_iload_n dX11_hastiest_23 rfl ?_
          refine jx_iconst (v := -1) dX11_hastiest_24 (by decide) ?_
          refine jx_icmp_eq 43 dX11_hastiest_25 (by decide) (fun h25 => ?_) (fun h25 => ?_)
          · exfalso
            have e2 := congrArg Int32.toInt h25
            rw [nI_toInt (by omega), show (-1 : Int32).toInt = -1 from by decide] at e2
            omega
          · have q1 := (hdi p h12).2
            have q2 := (hdi x (by omega)).2
            refine jx_aload_n dX11_hastiest_28 rfl ?_
            refine jx_getR dX11_hastiest_29 flX11_59 rfl rfl (hR _ _ _ rfl) ?_
            refine jx_iload_n dX11_hastiest_32 rfl ?_
            refine jx_ialdE (p) dX11_hastiest_33 rfl (rfl) (by omega) (by omega) ((hdi p h12).1) ?_
            refine jx_aload_n dX11_hastiest_34 rfl ?_
            refine jx_getR dX11_hastiest_35 flX11_59 rfl rfl (hR _ _ _ rfl) ?_
            refine jx_iload_n dX11_hastiest_38 rfl ?_
            refine jx_ialdE (x) dX11_hastiest_39 rfl (rfl) (by omega) (by omega) ((hdi x (by omega)).1) ?_
            refine jx_icmpN_ge (a := (cN (I 1080 p))) (b := (cN (I 1080 x))) 45 dX11_hastiest_40 (by decide) (by omega) (by omega) (fun h40 => ?_) (fun h40 => ?_)
            · refine jx_iinc dX11_hastiest_45 rfl (v := nI (p + 1)) (nI_1 _) (by decide) ?_
              refine jx_goto 4 dX11_hastiest_48 (by decide) ?_
              have kk := ih h12
              rw [show hst I but (p + 1) = some x from by
                show (if but.testBit p = true then _ else _) = _
                rw [if_neg (by rw [h20]; decide), hx]
                exact if_neg (by omega)] at kk
              exact jx_ls (by exact ⟨rfl, rfl, rfl, rfl, trivial⟩) kk
            · refine jx_iload_n dX11_hastiest_43 rfl ?_
              refine jx_istore_n dX11_hastiest_44 rfl (by decide) ?_
              refine jx_iinc dX11_hastiest_45 rfl (v := nI (p + 1)) (nI_1 _) (by decide) ?_
              refine jx_goto 4 dX11_hastiest_48 (by decide) ?_
              have kk := ih h12
              rw [show hst I but (p + 1) = some p from by
                show (if but.testBit p = true then _ else _) = _
                rw [if_neg (by rw [h20]; decide), hx]
                exact if_pos h40] at kk
              exact jx_ls (by exact ⟨rfl, rfl, rfl, rfl, trivial⟩) kk
  refine jx_iconst (v := -1) dX11_hastiest_0 (by decide) ?_
  refine jx_istore_n dX11_hastiest_1 rfl (by decide) ?_
  refine jx_iconst (v := 0) dX11_hastiest_2 (by decide) ?_
  refine jx_istore_n dX11_hastiest_3 rfl (by decide) ?_
  exact jx_ls (by exact ⟨rfl, rfl, rfl, rfl, trivial⟩) (key 0 (by omega))
set_option maxHeartbeats 1000000 in
set_option maxRecDepth 20000 in
theorem tX11_quarrelsOn (hW : jWok w l) (hR : RS R) {W H np len p day : Nat} (hI : RI I W H np len) (hkp : kp I J) (hp : p < np) {dt : Nat → Nat} (hdt : ∀ k, k < p → J 1101 k = nI (dt k) ∧ dt k ≤ 40) (hd : day ≤ 40) : jCD w l mX11_quarrelsOn 1 [.ref 1069, .int (nI p), .int (nI day)] (n, shE, J, L, R) (some (.int (jb (anyN (fun k => decide (dt k = day) && (cN (I 1081 p)).testBit k) p)))) (n, shE, J, L, R) := by
  refine jCD_of hW (by decide) rfl (Nat.le_of_ble_eq_true rfl) ?_
  have hnp := hI.2.2.2.2.1.2
  obtain ⟨-, -, -, -, -, hk6⟩ := hI.2.2.2.2.2.1 p hp
  have key : ∀ k, k ≤ p → anyN (fun k => decide (dt k = day) && (cN (I 1081 p)).testBit k) k = false → jWP w l mX11_quarrelsOn 1 0 0 (fun r t => r = some (.int (jb (anyN (fun k => decide (dt k = day) && (cN (I 1081 p)).testBit k) p))) ∧ t = (n, shE, J, L, R)) (fun _ _ => False) 2 [(0, .ref 1069), (1, .int (nI p)), (2, .int (nI day)), (3, .int (nI k))] [] (n, shE, J, L, R) := by
    refine jdown _ (fun k hk ih => ?_)
    intro ha
    refine jx_iload_n dX11_quarrelsOn_2 rfl ?_
    refine jx_iload_n dX11_quarrelsOn_3 rfl ?_
    refine jx_icmpN_ge (a := k) (b := p) 39 dX11_quarrelsOn_4 (by decide) (by omega) (by omega) (fun h4 => ?_) (fun h4 => ?_)
    · refine jx_iconst (v := 0) dX11_quarrelsOn_39 (by decide) ?_
      refine jx_zret dX11_quarrelsOn_40 rfl ?_ ?_
      · first | exact Or.inl rfl | exact Or.inr rfl | exact jb_or _
      have hkp2 : k = p := by omega
      subst hkp2
      refine ⟨?_, rfl⟩
      rw [ha]; rfl
    · have hdk := (hdt k h4).2
      refine jx_aload_n dX11_quarrelsOn_7 rfl ?_
      refine jx_getR dX11_quarrelsOn_8 flX11_130 rfl rfl (hR _ _ _ rfl) ?_
      refine jx_iload_n dX11_quarrelsOn_11 rfl ?_
      refine jx_ialdE (k) dX11_quarrelsOn_12 rfl (rfl) (by omega) (by omega) ((hdt k h4).1) ?_
      refine jx_iload_n dX11_quarrelsOn_13 rfl ?_
      refine jx_icmpN_ne (a := (dt k)) (b := day) 33 dX11_quarrelsOn_14 (by decide) (by omega) (by omega) (fun h14 => ?_) (fun h14 => ?_)
      · refine jx_iinc dX11_quarrelsOn_33 rfl (v := nI (k + 1)) (nI_1 _) (by decide) ?_
        refine jx_goto 2 dX11_quarrelsOn_36 (by decide) ?_
        refine jx_ls (by exact ⟨rfl, rfl, rfl, rfl, trivial⟩) (ih h4 ?_)
        show (anyN (fun k => decide (dt k = day) && (cN (I 1081 p)).testBit k) k || (fun k => decide (dt k = day) && (cN (I 1081 p)).testBit k) k) = false
        rw [ha, Bool.false_or]
        show (decide (dt k = day) && (cN (I 1081 p)).testBit k) = false
        first | (rw [decide_eq_false h14]; rfl) | (rw [jb_n1 h28, Bool.and_false])
      · refine jx_aload_n dX11_quarrelsOn_17 rfl ?_
        refine jx_getR dX11_quarrelsOn_18 flX11_62 rfl rfl (hR _ _ _ rfl) ?_
        refine jx_iload_n dX11_quarrelsOn_21 rfl ?_
        refine jx_ialdE (p) dX11_quarrelsOn_22 rfl (rfl) (by omega) (by omega) ((congrFun (hkp 1081 (by omega) (by omega)) p).trans hk6.1) ?_
        refine jx_iload_n dX11_quarrelsOn_23 rfl ?_
        refine jx_ishr dX11_quarrelsOn_24 ?_
        refine jx_iconst (v := 1) dX11_quarrelsOn_25 (by decide) ?_
        refine jx_iandE (z := jb ((cN (I 1081 p)).testBit k)) dX11_quarrelsOn_26 (bit_eq hk6.2 (by omega)) ?_
        refine jx_iconst (v := 1) dX11_quarrelsOn_27 (by decide) ?_
        refine jx_icmp_ne 33 dX11_quarrelsOn_28 (by decide) (fun h28 => ?_) (fun h28 => ?_)
        · refine jx_iinc dX11_quarrelsOn_33 rfl (v := nI (k + 1)) (nI_1 _) (by decide) ?_
          refine jx_goto 2 dX11_quarrelsOn_36 (by decide) ?_
          refine jx_ls (by exact ⟨rfl, rfl, rfl, rfl, trivial⟩) (ih h4 ?_)
          show (anyN (fun k => decide (dt k = day) && (cN (I 1081 p)).testBit k) k || (fun k => decide (dt k = day) && (cN (I 1081 p)).testBit k) k) = false
          rw [ha, Bool.false_or]
          show (decide (dt k = day) && (cN (I 1081 p)).testBit k) = false
          first | (rw [decide_eq_false h14]; rfl) | (rw [jb_n1 h28, Bool.and_false])
        · refine jx_iconst (v := 1) dX11_quarrelsOn_31 (by decide) ?_
          refine jx_zret dX11_quarrelsOn_32 rfl ?_ ?_
          · first | exact Or.inl rfl | exact Or.inr rfl | exact jb_or _
          refine ⟨?_, rfl⟩
          have hg : (fun k => decide (dt k = day) && (cN (I 1081 p)).testBit k) k = true := by
            show (decide (dt k = day) && (cN (I 1081 p)).testBit k) = true
            rw [decide_eq_true h14, jb_1.mp h28]; rfl
          rw [anyN_of hg h4]; rfl
  refine jx_iconst (v := 0) dX11_quarrelsOn_0 (by decide) ?_
  refine jx_istore_n dX11_quarrelsOn_1 rfl (by decide) ?_
  exact jx_ls (by exact ⟨rfl, rfl, rfl, rfl, trivial⟩) (key 0 (by omega) rfl)
end RR
