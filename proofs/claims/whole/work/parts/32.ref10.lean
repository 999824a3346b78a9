/-! THE REFERENCE: starts, the last start, what waiting costs -/
theorem sUp_stay {W H pace : Nat} {m : Nat → Nat → Bool} {s : Nat → Nat → Nat} {c t : Nat} : ∀ v, sUp W H pace m s c t v ≤ sStay m s c t := by
  intro v
  induction v with
  | zero => exact Nat.le_refl _
  | succ v ih =>
    show sMin W H pace m s c t v _ ≤ _
    unfold sMin
    split
    · split
      · split
        · omega
        · exact ih
      · exact ih
    · exact ih
theorem sn_mono {W H pace : Nat} (hp : 1 ≤ pace) (hW : 3 ≤ W) {m : Nat → Nat → Bool} {c t : Nat} (hc : c % W = 0) (ht : t + 1 < 96) (hm : m c (t + 1) = true) : sn W H pace m c t ≤ sn W H pace m c (t + 1) := by
  rw [sn_eq hp (t := t) (by omega)]
  unfold sOne
  rw [if_neg (by omega)]
  refine Nat.le_trans (sUp_stay 4) ?_
  unfold sStay
  rw [if_pos ⟨ht, hm⟩]
  exact Nat.le_refl _
theorem mP_shore (I : Nat → Nat → Int32) (W H len day : Nat) (wind : Int32) (p : Nat) {c : Nat} (t : Nat) (hc : c % W = 0) : mP I W H len day wind p c t = true := by
  unfold mP mK mayQ
  simp [hc]
theorem arr_mono {I : Nat → Nat → Int32} {W H np len : Nat} (hI : RI I W H np len) {p fog : Nat} (hp : p < np) (hf : fog ≤ 3) (day : Nat) (wind : Int32) : ∀ j t, t + j < 96 → arr I W H len day wind p fog t ≤ arr I W H len day wind p fog (t + j) := by
  intro j
  induction j with
  | zero => intro t _; exact Nat.le_refl _
  | succ j ih =>
    intro t ht
    refine Nat.le_trans (ih t (by omega)) ?_
    have hm : (W * cN (I 1079 p)) % W = 0 := Nat.mul_mod_right _ _
    exact sn_mono (pc_le hI hp hf).1 hI.1.1.2.2.1 hm (by omega) (mP_shore I W H len day wind p _ hm)
/-- how many ticks one may start at -/
def NS (I : Nat → Nat → Int32) (W H len day : Nat) (wind : Int32) (p fog : Nat) : Nat := (fnd (fun t => decide (arr I W H len day wind p fog t = 1000)) 96).getD 96
theorem NS_kp {I J : Nat → Nat → Int32} (h : kp I J) (W H len day : Nat) (wind : Int32) (p fog : Nat) : NS J W H len day wind p fog = NS I W H len day wind p fog := by
  unfold NS
  rw [show (fun t => decide (arr J W H len day wind p fog t = 1000)) = (fun t => decide (arr I W H len day wind p fog t = 1000)) from funext fun t => by rw [arr_kp h]]
theorem NS_le (I : Nat → Nat → Int32) (W H len day : Nat) (wind : Int32) (p fog : Nat) : NS I W H len day wind p fog ≤ 96 := by
  unfold NS
  cases h : fnd (fun t => decide (arr I W H len day wind p fog t = 1000)) 96 with
  | none => exact Nat.le_refl _
  | some t => have := (fnd_some.mp h).1; show t ≤ 96; omega
theorem NS_iff {I : Nat → Nat → Int32} {W H np len : Nat} (hI : RI I W H np len) {p fog : Nat} (hp : p < np) (hf : fog ≤ 3) (day : Nat) (wind : Int32) {t : Nat} (ht : t < 96) : arr I W H len day wind p fog t = 1000 ↔ NS I W H len day wind p fog ≤ t := by
  unfold NS
  cases h : fnd (fun t => decide (arr I W H len day wind p fog t = 1000)) 96 with
  | none =>
    have := fnd_none.mp h t ht
    simp only [decide_eq_false_iff_not] at this
    refine ⟨fun q => absurd q this, fun q => ?_⟩
    change 96 ≤ t at q
    omega
  | some u =>
    obtain ⟨h1, h2, h3⟩ := fnd_some.mp h
    simp only [decide_eq_true_eq] at h2
    show _ ↔ u ≤ t
    refine ⟨fun q => ?_, fun q => ?_⟩
    · by_cases e : u ≤ t
      · exact e
      · have := h3 t (by omega)
        simp only [decide_eq_false_iff_not] at this
        exact absurd q this
    · have := arr_mono hI hp hf day wind (t - u) u (by omega)
      rw [show u + (t - u) = t by omega, h2] at this
      have := arr_le I W H len day wind p fog t
      omega
def stV (N a0 k : Nat) : Int32 := if k = 0 then nI N else if k = 1 then (if N = 0 then -1 else 0) else if k = 2 then zI ((N : Int) - 1) else if N = 0 then -1 else nI a0
section RJ
variable {w : jWD} {l : Launch} {n : Nat} {I J : Nat → Nat → Int32} {L : Nat → Nat → Int64} {R : Nat → Nat → Option Nat}

set_option maxHeartbeats 1000000 in
set_option maxRecDepth 20000 in
theorem tX11_startsF (hW : jWok w l) (hR : RS R) {W H np len : Nat} (hI : RI I W H np len) (p day k : Int32) (hbad : ¬ (ltQ p np = true ∧ dayQ day = true ∧ 0 ≤ k.toInt ∧ k.toInt ≤ 3)) : jCD w l mX11_starts 3 [.ref 1069, .int p, .int day, .int k] (n, shE, I, L, R) (some (.int 0)) (n, shE, upI I 1069 2 1, L, R) := by
  refine jCD_of hW (by decide) rfl (Nat.le_of_ble_eq_true rfl) ?_
  have hI0 := hI.kp (k0 I)
  refine jx_aload_n dX11_starts_0 rfl ?_
  refine jx_iconst (v := 0) dX11_starts_1 (by decide) ?_
  refine jx_putI dX11_starts_2 flX11_187 rfl rfl (fun r h => by cases h; rfl) ?_
  refine jx_aload_n dX11_starts_5 rfl ?_
  refine jx_iload_n dX11_starts_6 rfl ?_
  refine jx_Vi (as := [.int _]) dX11_starts_7 mlX11_448 okX11_isParty viX11_isParty rfl rfl rfl rfl rfl (by decide) (Nat.le_of_ble_eq_true rfl) (tX11_isParty hW hR (hI0.2.2.2.2.1.1) hI0.2.2.2.2.1.2 _) ?_
  refine jx_ifB_eq 32 dX11_starts_10 (by decide) (fun h10 => ?_) (fun h10 => ?_)
  · refine jx_aload_n dX11_starts_32 rfl ?_
    refine jx_iconst (v := 1) dX11_starts_33 (by decide) ?_
    refine jx_Vi (as := [.int _]) dX11_starts_34 mlX11_351 okX11_fail viX11_fail rfl rfl rfl rfl rfl (by decide) (Nat.le_of_ble_eq_true rfl) (tX11_fail hW _) ?_
    refine jx_iret dX11_starts_37 rfl ?_
    exact ⟨rfl, by rw [up_up]⟩
  · refine jx_iload_n dX11_starts_13 rfl ?_
    refine jx_Si (as := [.int _]) dX11_starts_14 mlX11_438 okX11_isDay stX11_isDay rfl rfl (by decide) (Nat.le_of_ble_eq_true rfl) (tX11_isDay hW _) ?_
    refine jx_ifB_eq 32 dX11_starts_17 (by decide) (fun h17 => ?_) (fun h17 => ?_)
    · refine jx_aload_n dX11_starts_32 rfl ?_
      refine jx_iconst (v := 1) dX11_starts_33 (by decide) ?_
      refine jx_Vi (as := [.int _]) dX11_starts_34 mlX11_351 okX11_fail viX11_fail rfl rfl rfl rfl rfl (by decide) (Nat.le_of_ble_eq_true rfl) (tX11_fail hW _) ?_
      refine jx_iret dX11_starts_37 rfl ?_
      exact ⟨rfl, by rw [up_up]⟩
    · refine jx_iload_n dX11_starts_20 rfl ?_
      refine jx_i2l dX11_starts_21 ?_
      refine jx_lconst (v := 0) dX11_starts_22 (by decide) ?_
      refine jx_ldc2 dX11_starts_23 ctX11_462 ?_
      refine jx_Si (as := [.long _, .long _, .long _]) dX11_starts_26 mlX11_190 okX11_isIn stX11_isIn rfl rfl (by decide) (Nat.le_of_ble_eq_true rfl) (tX11_isInC hW 0 3 (by decide) (by decide) _) ?_
      refine jx_ifB_ne 38 dX11_starts_29 (by decide) (fun h29 => ?_) (fun h29 => ?_)
      · exact absurd ⟨h10, h17, (of_decide_eq_true h29).1, (of_decide_eq_true h29).2⟩ hbad
      · refine jx_aload_n dX11_starts_32 rfl ?_
        refine jx_iconst (v := 1) dX11_starts_33 (by decide) ?_
        refine jx_Vi (as := [.int _]) dX11_starts_34 mlX11_351 okX11_fail viX11_fail rfl rfl rfl rfl rfl (by decide) (Nat.le_of_ble_eq_true rfl) (tX11_fail hW _) ?_
        refine jx_iret dX11_starts_37 rfl ?_
        exact ⟨rfl, by rw [up_up]⟩
set_option maxHeartbeats 1000000 in
set_option maxRecDepth 20000 in
theorem tX11_starts (hW : jWok w l) (hR : RS R) {W H np len : Nat} (hI : RI I W H np len) {p day k : Nat} (hp : p < np) (hd : day ≤ 40) (hk : k ≤ 3) : jRi w l mX11_starts 6 [.ref 1069, .int (nI p), .int (nI day), .int (nI k)] (n, shE, I, L, R) (fun r t => r = stV (NS I W H len day (I 1072 7) p 0) (arr I W H len day (I 1072 7) p 0 0) k ∧ ∃ J, t = (n, shE, J, L, R) ∧ eqs (upI I 1069 2 0) J) := by
  refine jRi_of hW (by decide) rfl (Nat.le_of_ble_eq_true rfl) ?_
  have hI0 := hI.kp (k0 I)
  have hT := hI0.1.1
  have hz := hT.wh
  have hw3 := hT.2.2.1
  have hw9 := hT.2.2.2.1
  have hh1 := hT.2.2.2.2.1
  have hh7 := hT.2.2.2.2.2
  have hnp := hI0.2.2.2.2.1.2
  refine jx_aload_n dX11_starts_0 rfl ?_
  refine jx_iconst (v := 0) dX11_starts_1 (by decide) ?_
  refine jx_putI dX11_starts_2 flX11_187 rfl rfl (fun r h => by cases h; rfl) ?_
  refine jx_aload_n dX11_starts_5 rfl ?_
  refine jx_iload_n dX11_starts_6 rfl ?_
  refine jx_Vi (as := [.int _]) dX11_starts_7 mlX11_448 okX11_isParty viX11_isParty rfl rfl rfl rfl rfl (by decide) (Nat.le_of_ble_eq_true rfl) (tX11_isPartyT hW hR (hI0.2.2.2.2.1.1) hI0.2.2.2.2.1.2 hp) ?_
  refine jx_ifB_eq 32 dX11_starts_10 (by decide) (fun h10 => by cases h10) (fun h10 => ?_)
  refine jx_iload_n dX11_starts_13 rfl ?_
  refine jx_Si (as := [.int _]) dX11_starts_14 mlX11_438 okX11_isDay stX11_isDay rfl rfl (by decide) (Nat.le_of_ble_eq_true rfl) (tX11_isDayT hW hd) ?_
  refine jx_ifB_eq 32 dX11_starts_17 (by decide) (fun h17 => by cases h17) (fun h17 => ?_)
  refine jx_iload_n dX11_starts_20 rfl ?_
  refine jx_i2l dX11_starts_21 ?_
  refine jx_lconst (v := 0) dX11_starts_22 (by decide) ?_
  refine jx_ldc2 dX11_starts_23 ctX11_462 ?_
  refine jx_Si (as := [.long _, .long _, .long _]) dX11_starts_26 mlX11_190 okX11_isIn stX11_isIn rfl rfl (by decide) (Nat.le_of_ble_eq_true rfl) (tX11_isInC hW 0 3 (by decide) (by decide) _) ?_
  refine jx_ifB_ne 38 dX11_starts_29 (by decide) (fun h29 => ?_) (fun h29 => ?_)
  · refine jx_aload_n dX11_starts_38 rfl ?_
    refine jx_iload_n dX11_starts_39 rfl ?_
    refine jx_iload_n dX11_starts_40 rfl ?_
    refine jx_aload_n dX11_starts_41 rfl ?_
    refine jx_getR dX11_starts_42 flX11_34 rfl rfl (hR _ _ _ rfl) ?_
    refine jx_bipush (v := 7) dX11_starts_45 (by decide) ?_
    refine jx_ialdN (7) dX11_starts_47 rfl (rfl) (by omega) (by omega) ?_
    refine jx_iconst (v := 0) dX11_starts_48 (by decide) ?_
    refine jx_VRv (as := [.int _, .int _, .int _, .int _]) dX11_starts_49 mlX11_451 okX11_tellParty viX11_tellParty rfl rfl rfl rfl rfl (by decide) (Nat.le_of_ble_eq_true rfl) (tX11_tellParty (fog := 0) hW hR hI0 hp hd (by omega) _) (fun t49 hq49 => ?_)
    obtain ⟨J1, rfl, he1, hts⟩ := hq49
    have eA : ∀ t, arr (upI I 1069 2 0) W H len day (upI I 1069 2 0 1072 7) p 0 t = arr I W H len day (I 1072 7) p 0 t := fun t => by rw [arr_kp (k0 I), k0 I 1072 (by omega) (by omega)]
    refine jx_iconst (v := 0) dX11_starts_52 (by decide) ?_
    refine jx_istore dX11_starts_53 (by decide) ?_
    refine jx_iconst (v := -1) dX11_starts_55 (by decide) ?_
    refine jx_istore dX11_starts_56 (by decide) ?_
    refine jx_iconst (v := -1) dX11_starts_58 (by decide) ?_
    refine jx_istore dX11_starts_59 (by decide) ?_
    refine jx_iconst (v := -1) dX11_starts_61 (by decide) ?_
    refine jx_istore dX11_starts_62 (by decide) ?_
    refine jx_iconst (v := 0) dX11_starts_64 (by decide) ?_
    refine jx_istore dX11_starts_65 (by decide) ?_
    have hmono := fun t (ht : t < 96) => arr_mono hI hp (fog := 0) (by omega) day (I 1072 7) t 0 (by omega)
    have hiff := fun t (ht : t < 96) => NS_iff hI hp (fog := 0) (by omega) day (I 1072 7) (t := t) ht
    have hN96 := NS_le I W H len day (I 1072 7) p 0
    have hal := fun t => arr_le I W H len day (I 1072 7) p 0 t
    obtain ⟨N, hNe⟩ : ∃ N, N = NS I W H len day (I 1072 7) p 0 := ⟨_, rfl⟩
    rw [← hNe] at hN96 hiff ⊢
    have key : ∀ q, q ≤ 96 → ∀ M, M = min q N → jWP w l mX11_starts 6 0 0 (fun v t => ∃ r, v = some (.int r) ∧ (fun r t => r = stV (N) (arr I W H len day (I 1072 7) p 0 0) k ∧ ∃ J, t = (n, shE, J, L, R) ∧ eqs (upI I 1069 2 0) J) r t) (fun _ _ => False) 67 [(0, .ref 1069), (1, .int (nI p)), (2, .int (nI day)), (3, .int (nI k)), (4, .int (nI M)), (5, .int (if M = 0 then -1 else 0)), (6, .int (zI ((M : Int) - 1))), (7, .int (if M = 0 then -1 else nI (arr I W H len day (I 1072 7) p 0 0))), (8, .int (nI q))] [] (n, shE, J1, L, R) := by
      refine jdown _ (fun q hq ih => ?_)
      intro M hM
      have hM9 : M ≤ 96 := by omega
      refine jx_iload dX11_starts_67 rfl ?_
      refine jx_bipush (v := 96) dX11_starts_69 (by decide) ?_
      refine jx_icmpN_ge (a := q) (b := 96) 142 dX11_starts_71 (by decide) (by omega) (by omega) (fun h71 => ?_) (fun h71 => ?_)
      · have hq96 : q = 96 := by omega
        have hMN : M = N := by omega
        subst hMN
        refine jx_iload_n dX11_starts_142 rfl ?_
        refine jx_ifN_ne (a := k) 151 dX11_starts_143 (by decide) (by omega) (fun h143 => ?_) (fun h143 => ?_)
        · refine jx_iload_n dX11_starts_151 rfl ?_
          refine jx_iconst (v := 1) dX11_starts_152 (by decide) ?_
          refine jx_icmpN_ne (a := k) (b := 1) 161 dX11_starts_153 (by decide) (by omega) (by omega) (fun h153 => ?_) (fun h153 => ?_)
          · refine jx_iload_n dX11_starts_161 rfl ?_
            refine jx_iconst (v := 2) dX11_starts_162 (by decide) ?_
            refine jx_icmpN_ne (a := k) (b := 2) 171 dX11_starts_163 (by decide) (by omega) (by omega) (fun h163 => ?_) (fun h163 => ?_)
            · refine jx_iload dX11_starts_171 rfl ?_
              refine jx_iret dX11_starts_173 rfl ?_
              refine ⟨_, rfl, ?_, _, rfl, he1⟩
              unfold stV
              first | (rw [if_pos h143]; done) | (rw [if_neg h143, if_pos h153]; done) | (rw [if_neg h143, if_neg h153, if_pos h163]; done) | rw [if_neg h143, if_neg h153, if_neg h163]
            · refine jx_iload dX11_starts_166 rfl ?_
              refine jx_goto 173 dX11_starts_168 (by decide) ?_
              refine jx_iret dX11_starts_173 rfl ?_
              refine ⟨_, rfl, ?_, _, rfl, he1⟩
              unfold stV
              first | (rw [if_pos h143]; done) | (rw [if_neg h143, if_pos h153]; done) | (rw [if_neg h143, if_neg h153, if_pos h163]; done) | rw [if_neg h143, if_neg h153, if_neg h163]
          · refine jx_iload dX11_starts_156 rfl ?_
            refine jx_goto 173 dX11_starts_158 (by decide) ?_
            refine jx_iret dX11_starts_173 rfl ?_
            refine ⟨_, rfl, ?_, _, rfl, he1⟩
            unfold stV
            first | (rw [if_pos h143]; done) | (rw [if_neg h143, if_pos h153]; done) | (rw [if_neg h143, if_neg h153, if_pos h163]; done) | rw [if_neg h143, if_neg h153, if_neg h163]
        · refine jx_iload dX11_starts_146 rfl ?_
          refine jx_goto 173 dX11_starts_148 (by decide) ?_
          refine jx_iret dX11_starts_173 rfl ?_
          refine ⟨_, rfl, ?_, _, rfl, he1⟩
          unfold stV
          first | (rw [if_pos h143]; done) | (rw [if_neg h143, if_pos h153]; done) | (rw [if_neg h143, if_neg h153, if_pos h163]; done) | rw [if_neg h143, if_neg h153, if_neg h163]
      · refine jx_aload_n dX11_starts_74 rfl ?_
        refine jx_iload_n dX11_starts_75 rfl ?_
        refine jx_iload dX11_starts_76 rfl ?_
        refine jx_Vi (as := [.int _, .int _]) dX11_starts_78 mlX11_454 okX11_arrives viX11_arrives rfl rfl rfl rfl rfl (by decide) (Nat.le_of_ble_eq_true rfl) (tX11_arrivesP hW hR hI0 he1 hts hp h71) ?_
        rw [eA]
        have halq := hal q
        have hal0 := hal 0
        have hiq := hiff q h71
        have hmq := hmono q h71
        rw [Nat.zero_add] at hmq
        refine jx_istore dX11_starts_81 (by decide) ?_
        refine jx_iload dX11_starts_83 rfl ?_
        refine jx_iconst (v := -1) dX11_starts_85 (by decide) ?_
        refine jx_icmp_ne 92 dX11_starts_86 (by decide) (fun h86 => ?_) (fun h86 => ?_)
        · have hu : ¬ arr I W H len day (I 1072 7) p 0 q = 1000 := fun z => h86 ((aI_m (by omega)).mpr z)
          have hlt : q < N := by
            rcases Nat.lt_or_ge q N with z | z
            · exact z
            · exact absurd (hiq.mpr z) hu
          have hMq : M = q := by omega
          subst hMq
          rw [aI_v hu]
          have kk := ih h71 (M + 1) (by omega)
          rw [if_neg (by omega), if_neg (by omega), show zI (((M + 1 : Nat) : Int) - 1) = nI M from by rw [nI_zI]; congr 1; omega] at kk
          rcases Nat.eq_zero_or_pos M with e0 | e0
          · subst e0
            refine jx_iinc dX11_starts_92 rfl (v := nI (0 + 1)) (nI_1 _) (by decide) ?_
            refine jx_iload dX11_starts_95 rfl ?_
            refine jx_iconst (v := -1) dX11_starts_97 (by decide) ?_
            refine jx_icmp_ne 106 dX11_starts_98 (by decide) (fun h98 => ?_) (fun h98 => ?_)
            · exact absurd rfl h98
            · refine jx_iload dX11_starts_101 rfl ?_
              refine jx_goto 108 dX11_starts_103 (by decide) ?_
              refine jx_istore dX11_starts_108 (by decide) ?_
              refine jx_iload dX11_starts_110 rfl ?_
              refine jx_istore dX11_starts_112 (by decide) ?_
              refine jx_iload dX11_starts_114 rfl ?_
              refine jx_iconst (v := -1) dX11_starts_116 (by decide) ?_
              refine jx_icmp_eq 127 dX11_starts_117 (by decide) (fun h117 => ?_) (fun h117 => ?_)
              · refine jx_iload dX11_starts_127 rfl ?_
                refine jx_goto 134 dX11_starts_129 (by decide) ?_
                refine jx_istore dX11_starts_134 (by decide) ?_
                refine jx_iinc dX11_starts_136 rfl (v := nI (0 + 1)) (nI_1 _) (by decide) ?_
                refine jx_goto 67 dX11_starts_139 (by decide) ?_
                exact jx_ls (by exact ⟨rfl, rfl, rfl, rfl, rfl, rfl, rfl, rfl, rfl, trivial⟩) kk
              · exact absurd rfl h117
          · rw [if_neg (by omega), if_neg (by omega)]
            refine jx_iinc dX11_starts_92 rfl (v := nI (M + 1)) (nI_1 _) (by decide) ?_
            refine jx_iload dX11_starts_95 rfl ?_
            refine jx_iconst (v := -1) dX11_starts_97 (by decide) ?_
            refine jx_icmp_ne 106 dX11_starts_98 (by decide) (fun h98 => ?_) (fun h98 => ?_)
            · refine jx_iload dX11_starts_106 rfl ?_
              refine jx_istore dX11_starts_108 (by decide) ?_
              refine jx_iload dX11_starts_110 rfl ?_
              refine jx_istore dX11_starts_112 (by decide) ?_
              refine jx_iload dX11_starts_114 rfl ?_
              refine jx_iconst (v := -1) dX11_starts_116 (by decide) ?_
              refine jx_icmp_eq 127 dX11_starts_117 (by decide) (fun h117 => ?_) (fun h117 => ?_)
              · exfalso
                have e2 := congrArg Int32.toInt h117
                rw [nI_toInt (by omega), show (-1 : Int32).toInt = -1 from by decide] at e2
                omega
              · refine jx_iload dX11_starts_120 rfl ?_
                refine jx_iload dX11_starts_122 rfl ?_
                refine jx_icmpN_ge (a := (arr I W H len day (I 1072 7) p 0 M)) (b := (arr I W H len day (I 1072 7) p 0 0)) 132 dX11_starts_124 (by decide) (by omega) (by omega) (fun h124 => ?_) (fun h124 => ?_)
                · refine jx_iload dX11_starts_132 rfl ?_
                  refine jx_istore dX11_starts_134 (by decide) ?_
                  refine jx_iinc dX11_starts_136 rfl (v := nI (M + 1)) (nI_1 _) (by decide) ?_
                  refine jx_goto 67 dX11_starts_139 (by decide) ?_
                  exact jx_ls (by exact ⟨rfl, rfl, rfl, rfl, rfl, rfl, rfl, rfl, rfl, trivial⟩) kk
                · exfalso; omega
            · exact absurd h98 (by decide)
        · have hu := (aI_m (by omega)).mp h86
          have hge := hiq.mp hu
          have kk := ih h71 M (by omega)
          refine jx_goto 136 dX11_starts_89 (by decide) ?_
          refine jx_iinc dX11_starts_136 rfl (v := nI (q + 1)) (nI_1 _) (by decide) ?_
          refine jx_goto 67 dX11_starts_139 (by decide) ?_
          exact jx_ls (by exact ⟨rfl, rfl, rfl, rfl, rfl, rfl, rfl, rfl, rfl, trivial⟩) kk
    have kk := key 0 (by omega) 0 (by omega)
    exact jx_ls (by exact ⟨rfl, rfl, rfl, rfl, rfl, rfl, rfl, rfl, rfl, trivial⟩) kk
  · exfalso
    have h3 := of_decide_eq_false h29
    rw [nI_toInt (by omega)] at h3
    omega
set_option maxHeartbeats 1000000 in
set_option maxRecDepth 20000 in
theorem tX11_lateF (hW : jWok w l) (hR : RS R) {W H np len : Nat} (hI : RI I W H np len) (p day tick : Int32) (hbad : ¬ (ltQ p np = true ∧ dayQ day = true ∧ tickQ tick = true)) : jCD w l mX11_late 3 [.ref 1069, .int p, .int day, .int tick] (n, shE, I, L, R) (some (.int 0)) (n, shE, upI I 1069 2 1, L, R) := by
  refine jCD_of hW (by decide) rfl (Nat.le_of_ble_eq_true rfl) ?_
  have hI0 := hI.kp (k0 I)
  refine jx_aload_n dX11_late_0 rfl ?_
  refine jx_iconst (v := 0) dX11_late_1 (by decide) ?_
  refine jx_putI dX11_late_2 flX11_187 rfl rfl (fun r h => by cases h; rfl) ?_
  refine jx_aload_n dX11_late_5 rfl ?_
  refine jx_iload_n dX11_late_6 rfl ?_
  refine jx_Vi (as := [.int _]) dX11_late_7 mlX11_448 okX11_isParty viX11_isParty rfl rfl rfl rfl rfl (by decide) (Nat.le_of_ble_eq_true rfl) (tX11_isParty hW hR (hI0.2.2.2.2.1.1) hI0.2.2.2.2.1.2 _) ?_
  refine jx_ifB_eq 27 dX11_late_10 (by decide) (fun h10 => ?_) (fun h10 => ?_)
  · refine jx_aload_n dX11_late_27 rfl ?_
    refine jx_iconst (v := 1) dX11_late_28 (by decide) ?_
    refine jx_Vi (as := [.int _]) dX11_late_29 mlX11_351 okX11_fail viX11_fail rfl rfl rfl rfl rfl (by decide) (Nat.le_of_ble_eq_true rfl) (tX11_fail hW _) ?_
    refine jx_iret dX11_late_32 rfl ?_
    exact ⟨rfl, by rw [up_up]⟩
  · refine jx_iload_n dX11_late_13 rfl ?_
    refine jx_Si (as := [.int _]) dX11_late_14 mlX11_438 okX11_isDay stX11_isDay rfl rfl (by decide) (Nat.le_of_ble_eq_true rfl) (tX11_isDay hW _) ?_
    refine jx_ifB_eq 27 dX11_late_17 (by decide) (fun h17 => ?_) (fun h17 => ?_)
    · refine jx_aload_n dX11_late_27 rfl ?_
      refine jx_iconst (v := 1) dX11_late_28 (by decide) ?_
      refine jx_Vi (as := [.int _]) dX11_late_29 mlX11_351 okX11_fail viX11_fail rfl rfl rfl rfl rfl (by decide) (Nat.le_of_ble_eq_true rfl) (tX11_fail hW _) ?_
      refine jx_iret dX11_late_32 rfl ?_
      exact ⟨rfl, by rw [up_up]⟩
    · refine jx_iload_n dX11_late_20 rfl ?_
      refine jx_Si (as := [.int _]) dX11_late_21 mlX11_445 okX11_isTick stX11_isTick rfl rfl (by decide) (Nat.le_of_ble_eq_true rfl) (tX11_isTick hW _) ?_
      refine jx_ifB_ne 33 dX11_late_24 (by decide) (fun h24 => ?_) (fun h24 => ?_)
      · exact absurd ⟨h10, h17, h24⟩ hbad
      · refine jx_aload_n dX11_late_27 rfl ?_
        refine jx_iconst (v := 1) dX11_late_28 (by decide) ?_
        refine jx_Vi (as := [.int _]) dX11_late_29 mlX11_351 okX11_fail viX11_fail rfl rfl rfl rfl rfl (by decide) (Nat.le_of_ble_eq_true rfl) (tX11_fail hW _) ?_
        refine jx_iret dX11_late_32 rfl ?_
        exact ⟨rfl, by rw [up_up]⟩
set_option maxHeartbeats 1000000 in
set_option maxRecDepth 20000 in
theorem tX11_late (hW : jWok w l) (hR : RS R) {W H np len : Nat} (hI : RI I W H np len) {p day tick : Nat} (hp : p < np) (hd : day ≤ 40) (ht : tick < 96) : jRi w l mX11_late 6 [.ref 1069, .int (nI p), .int (nI day), .int (nI tick)] (n, shE, I, L, R) (fun r t => r = (if NS I W H len day (I 1072 7) p 0 ≤ tick then -1 else nI (NS I W H len day (I 1072 7) p 0 - 1 - tick)) ∧ ∃ J, t = (n, shE, J, L, R) ∧ eqs (upI I 1069 2 0) J) := by
  refine jRi_of hW (by decide) rfl (Nat.le_of_ble_eq_true rfl) ?_
  have hI0 := hI.kp (k0 I)
  have hT := hI0.1.1
  have hz := hT.wh
  have hw3 := hT.2.2.1
  have hw9 := hT.2.2.2.1
  have hh1 := hT.2.2.2.2.1
  have hh7 := hT.2.2.2.2.2
  have hnp := hI0.2.2.2.2.1.2
  refine jx_aload_n dX11_late_0 rfl ?_
  refine jx_iconst (v := 0) dX11_late_1 (by decide) ?_
  refine jx_putI dX11_late_2 flX11_187 rfl rfl (fun r h => by cases h; rfl) ?_
  refine jx_aload_n dX11_late_5 rfl ?_
  refine jx_iload_n dX11_late_6 rfl ?_
  refine jx_Vi (as := [.int _]) dX11_late_7 mlX11_448 okX11_isParty viX11_isParty rfl rfl rfl rfl rfl (by decide) (Nat.le_of_ble_eq_true rfl) (tX11_isPartyT hW hR (hI0.2.2.2.2.1.1) hI0.2.2.2.2.1.2 hp) ?_
  refine jx_ifB_eq 27 dX11_late_10 (by decide) (fun h10 => by cases h10) (fun h10 => ?_)
  refine jx_iload_n dX11_late_13 rfl ?_
  refine jx_Si (as := [.int _]) dX11_late_14 mlX11_438 okX11_isDay stX11_isDay rfl rfl (by decide) (Nat.le_of_ble_eq_true rfl) (tX11_isDayT hW hd) ?_
  refine jx_ifB_eq 27 dX11_late_17 (by decide) (fun h17 => by cases h17) (fun h17 => ?_)
  refine jx_iload_n dX11_late_20 rfl ?_
  refine jx_Si (as := [.int _]) dX11_late_21 mlX11_445 okX11_isTick stX11_isTick rfl rfl (by decide) (Nat.le_of_ble_eq_true rfl) (tX11_isTickT hW ht) ?_
  refine jx_ifB_ne 33 dX11_late_24 (by decide) (fun h24 => ?_) (fun h24 => by cases h24)
  refine jx_aload_n dX11_late_33 rfl ?_
  refine jx_iload_n dX11_late_34 rfl ?_
  refine jx_iload_n dX11_late_35 rfl ?_
  refine jx_aload_n dX11_late_36 rfl ?_
  refine jx_getR dX11_late_37 flX11_34 rfl rfl (hR _ _ _ rfl) ?_
  refine jx_bipush (v := 7) dX11_late_40 (by decide) ?_
  refine jx_ialdN (7) dX11_late_42 rfl (rfl) (by omega) (by omega) ?_
  refine jx_iconst (v := 0) dX11_late_43 (by decide) ?_
  refine jx_VRv (as := [.int _, .int _, .int _, .int _]) dX11_late_44 mlX11_451 okX11_tellParty viX11_tellParty rfl rfl rfl rfl rfl (by decide) (Nat.le_of_ble_eq_true rfl) (tX11_tellParty (fog := 0) hW hR hI0 hp hd (by omega) _) (fun t44 hq44 => ?_)
  obtain ⟨J1, rfl, he1, hts⟩ := hq44
  have eA : ∀ t, arr (upI I 1069 2 0) W H len day (upI I 1069 2 0 1072 7) p 0 t = arr I W H len day (I 1072 7) p 0 t := fun t => by rw [arr_kp (k0 I), k0 I 1072 (by omega) (by omega)]
  have hiff := fun t (ht : t < 96) => NS_iff hI hp (fog := 0) (by omega) day (I 1072 7) (t := t) ht
  have hN96 := NS_le I W H len day (I 1072 7) p 0
  have hal := fun t => arr_le I W H len day (I 1072 7) p 0 t
  refine jx_aload_n dX11_late_47 rfl ?_
  refine jx_iload_n dX11_late_48 rfl ?_
  refine jx_iload_n dX11_late_49 rfl ?_
  refine jx_Vi (as := [.int _, .int _]) dX11_late_50 mlX11_454 okX11_arrives viX11_arrives rfl rfl rfl rfl rfl (by decide) (Nat.le_of_ble_eq_true rfl) (tX11_arrivesP hW hR hI0 he1 hts hp ht) ?_
  rw [eA]
  have halt := hal tick
  refine jx_iconst (v := -1) dX11_late_53 (by decide) ?_
  refine jx_icmp_ne 59 dX11_late_54 (by decide) (fun h54 => ?_) (fun h54 => ?_)
  · refine jx_bipush (v := 95) dX11_late_59 (by decide) ?_
    refine jx_istore dX11_late_61 (by decide) ?_
    have htN : ¬ NS I W H len day (I 1072 7) p 0 ≤ tick := fun z => h54 ((aI_m (by omega)).mpr ((hiff tick ht).mpr z))
    have key : ∀ t, t < 96 → NS I W H len day (I 1072 7) p 0 ≤ t + 1 → jWP w l mX11_late 6 0 0 (fun v t => ∃ r, v = some (.int r) ∧ (fun r t => r = (if NS I W H len day (I 1072 7) p 0 ≤ tick then -1 else nI (NS I W H len day (I 1072 7) p 0 - 1 - tick)) ∧ ∃ J, t = (n, shE, J, L, R) ∧ eqs (upI I 1069 2 0) J) r t) (fun _ _ => False) 63 [(0, .ref 1069), (1, .int (nI p)), (2, .int (nI day)), (3, .int (nI tick)), (4, .int (nI t))] [] (n, shE, J1, L, R) := by
      intro t
      induction t with
      | zero =>
        intro h1 h2
        refine jx_aload_n dX11_late_63 rfl ?_
        refine jx_iload_n dX11_late_64 rfl ?_
        refine jx_iload dX11_late_65 rfl ?_
        refine jx_Vi (as := [.int _, .int _]) dX11_late_67 mlX11_454 okX11_arrives viX11_arrives rfl rfl rfl rfl rfl (by decide) (Nat.le_of_ble_eq_true rfl) (tX11_arrivesP hW hR hI0 he1 hts hp h1) ?_
        rw [eA]
        have halq := hal 0
        refine jx_iconst (v := -1) dX11_late_70 (by decide) ?_
        refine jx_icmp_ne 80 dX11_late_71 (by decide) (fun h71 => ?_) (fun h71 => ?_)
        · have hz2 : ¬ NS I W H len day (I 1072 7) p 0 ≤ 0 := fun z => h71 ((aI_m (by omega)).mpr ((hiff (0) h1).mpr z))
          refine jx_iload dX11_late_80 rfl ?_
          refine jx_iload_n dX11_late_82 rfl ?_
          refine jx_isubE (z := nI (0 - tick)) dX11_late_83 (pk_sub (a := 0) (b := tick) (by omega)) ?_
          refine jx_iret dX11_late_84 rfl ?_
          refine ⟨_, rfl, ?_, _, rfl, he1⟩
          rw [if_neg htN, show NS I W H len day (I 1072 7) p 0 - 1 - tick = 0 - tick by omega]
        · exfalso
          have hz := (hiff 0 (by omega)).mp ((aI_m (by omega)).mp h71)
          omega
      | succ t ih =>
        intro h1 h2
        refine jx_aload_n dX11_late_63 rfl ?_
        refine jx_iload_n dX11_late_64 rfl ?_
        refine jx_iload dX11_late_65 rfl ?_
        refine jx_Vi (as := [.int _, .int _]) dX11_late_67 mlX11_454 okX11_arrives viX11_arrives rfl rfl rfl rfl rfl (by decide) (Nat.le_of_ble_eq_true rfl) (tX11_arrivesP hW hR hI0 he1 hts hp h1) ?_
        rw [eA]
        have halq := hal (t + 1)
        refine jx_iconst (v := -1) dX11_late_70 (by decide) ?_
        refine jx_icmp_ne 80 dX11_late_71 (by decide) (fun h71 => ?_) (fun h71 => ?_)
        · have hz2 : ¬ NS I W H len day (I 1072 7) p 0 ≤ t + 1 := fun z => h71 ((aI_m (by omega)).mpr ((hiff (t + 1) h1).mpr z))
          refine jx_iload dX11_late_80 rfl ?_
          refine jx_iload_n dX11_late_82 rfl ?_
          refine jx_isubE (z := nI ((t + 1) - tick)) dX11_late_83 (pk_sub (a := (t + 1)) (b := tick) (by omega)) ?_
          refine jx_iret dX11_late_84 rfl ?_
          refine ⟨_, rfl, ?_, _, rfl, he1⟩
          rw [if_neg htN, show NS I W H len day (I 1072 7) p 0 - 1 - tick = t + 1 - tick by omega]
        · have hz := (hiff (t + 1) h1).mp ((aI_m (by omega)).mp h71)
          refine jx_iinc dX11_late_74 rfl (v := nI ((t + 1) - 1)) (nI_m1 (by omega)) (by decide) ?_
          refine jx_goto 63 dX11_late_77 (by decide) ?_
          exact jx_ls (by exact ⟨rfl, rfl, rfl, rfl, rfl, trivial⟩) (ih (by omega) (by omega))
    exact jx_ls (by exact ⟨rfl, rfl, rfl, rfl, rfl, trivial⟩) (key 95 (by omega) (by omega))
  · refine jx_iconst (v := -1) dX11_late_57 (by decide) ?_
    refine jx_iret dX11_late_58 rfl ?_
    refine ⟨_, rfl, ?_, _, rfl, he1⟩
    rw [if_pos ((hiff tick ht).mp ((aI_m (by omega)).mp h54))]
set_option maxHeartbeats 1000000 in
set_option maxRecDepth 20000 in
theorem tX11_costsF (hW : jWok w l) (hR : RS R) {W H np len : Nat} (hI : RI I W H np len) (p day tick later : Int32) (hbad : ¬ (ltQ p np = true ∧ dayQ day = true ∧ tickQ tick = true)) : jCD w l mX11_costs 3 [.ref 1069, .int p, .int day, .int tick, .int later] (n, shE, I, L, R) (some (.int 0)) (n, shE, upI I 1069 2 1, L, R) := by
  refine jCD_of hW (by decide) rfl (Nat.le_of_ble_eq_true rfl) ?_
  have hI0 := hI.kp (k0 I)
  refine jx_aload_n dX11_costs_0 rfl ?_
  refine jx_iconst (v := 0) dX11_costs_1 (by decide) ?_
  refine jx_putI dX11_costs_2 flX11_187 rfl rfl (fun r h => by cases h; rfl) ?_
  refine jx_aload_n dX11_costs_5 rfl ?_
  refine jx_iload_n dX11_costs_6 rfl ?_
  refine jx_Vi (as := [.int _]) dX11_costs_7 mlX11_448 okX11_isParty viX11_isParty rfl rfl rfl rfl rfl (by decide) (Nat.le_of_ble_eq_true rfl) (tX11_isParty hW hR (hI0.2.2.2.2.1.1) hI0.2.2.2.2.1.2 _) ?_
  refine jx_ifB_eq 27 dX11_costs_10 (by decide) (fun h10 => ?_) (fun h10 => ?_)
  · refine jx_aload_n dX11_costs_27 rfl ?_
    refine jx_iconst (v := 1) dX11_costs_28 (by decide) ?_
    refine jx_Vi (as := [.int _]) dX11_costs_29 mlX11_351 okX11_fail viX11_fail rfl rfl rfl rfl rfl (by decide) (Nat.le_of_ble_eq_true rfl) (tX11_fail hW _) ?_
    refine jx_iret dX11_costs_32 rfl ?_
    exact ⟨rfl, by rw [up_up]⟩
  · refine jx_iload_n dX11_costs_13 rfl ?_
    refine jx_Si (as := [.int _]) dX11_costs_14 mlX11_438 okX11_isDay stX11_isDay rfl rfl (by decide) (Nat.le_of_ble_eq_true rfl) (tX11_isDay hW _) ?_
    refine jx_ifB_eq 27 dX11_costs_17 (by decide) (fun h17 => ?_) (fun h17 => ?_)
    · refine jx_aload_n dX11_costs_27 rfl ?_
      refine jx_iconst (v := 1) dX11_costs_28 (by decide) ?_
      refine jx_Vi (as := [.int _]) dX11_costs_29 mlX11_351 okX11_fail viX11_fail rfl rfl rfl rfl rfl (by decide) (Nat.le_of_ble_eq_true rfl) (tX11_fail hW _) ?_
      refine jx_iret dX11_costs_32 rfl ?_
      exact ⟨rfl, by rw [up_up]⟩
    · refine jx_iload_n dX11_costs_20 rfl ?_
      refine jx_Si (as := [.int _]) dX11_costs_21 mlX11_445 okX11_isTick stX11_isTick rfl rfl (by decide) (Nat.le_of_ble_eq_true rfl) (tX11_isTick hW _) ?_
      refine jx_ifB_ne 33 dX11_costs_24 (by decide) (fun h24 => ?_) (fun h24 => ?_)
      · exact absurd ⟨h10, h17, h24⟩ hbad
      · refine jx_aload_n dX11_costs_27 rfl ?_
        refine jx_iconst (v := 1) dX11_costs_28 (by decide) ?_
        refine jx_Vi (as := [.int _]) dX11_costs_29 mlX11_351 okX11_fail viX11_fail rfl rfl rfl rfl rfl (by decide) (Nat.le_of_ble_eq_true rfl) (tX11_fail hW _) ?_
        refine jx_iret dX11_costs_32 rfl ?_
        exact ⟨rfl, by rw [up_up]⟩
set_option maxHeartbeats 1000000 in
set_option maxRecDepth 20000 in
theorem tX11_costsF2 (hW : jWok w l) (hR : RS R) {W H np len : Nat} (hI : RI I W H np len) {p day tick : Nat} (later : Int32) (hp : p < np) (hd : day ≤ 40) (ht : tick < 96) (hbad : ¬ (0 ≤ later.toInt ∧ later.toInt ≤ 95 - tick)) : jCD w l mX11_costs 6 [.ref 1069, .int (nI p), .int (nI day), .int (nI tick), .int later] (n, shE, I, L, R) (some (.int 0)) (n, shE, upI I 1069 2 2, L, R) := by
  refine jCD_of hW (by decide) rfl (Nat.le_of_ble_eq_true rfl) ?_
  have hI0 := hI.kp (k0 I)
  refine jx_aload_n dX11_costs_0 rfl ?_
  refine jx_iconst (v := 0) dX11_costs_1 (by decide) ?_
  refine jx_putI dX11_costs_2 flX11_187 rfl rfl (fun r h => by cases h; rfl) ?_
  refine jx_aload_n dX11_costs_5 rfl ?_
  refine jx_iload_n dX11_costs_6 rfl ?_
  refine jx_Vi (as := [.int _]) dX11_costs_7 mlX11_448 okX11_isParty viX11_isParty rfl rfl rfl rfl rfl (by decide) (Nat.le_of_ble_eq_true rfl) (tX11_isPartyT hW hR (hI0.2.2.2.2.1.1) hI0.2.2.2.2.1.2 hp) ?_
  refine jx_ifB_eq 27 dX11_costs_10 (by decide) (fun h10 => by cases h10) (fun h10 => ?_)
  refine jx_iload_n dX11_costs_13 rfl ?_
  refine jx_Si (as := [.int _]) dX11_costs_14 mlX11_438 okX11_isDay stX11_isDay rfl rfl (by decide) (Nat.le_of_ble_eq_true rfl) (tX11_isDayT hW hd) ?_
  refine jx_ifB_eq 27 dX11_costs_17 (by decide) (fun h17 => by cases h17) (fun h17 => ?_)
  refine jx_iload_n dX11_costs_20 rfl ?_
  refine jx_Si (as := [.int _]) dX11_costs_21 mlX11_445 okX11_isTick stX11_isTick rfl rfl (by decide) (Nat.le_of_ble_eq_true rfl) (tX11_isTickT hW ht) ?_
  refine jx_ifB_ne 33 dX11_costs_24 (by decide) (fun h24 => ?_) (fun h24 => by cases h24)
  refine jx_iload dX11_costs_33 rfl ?_
  refine jx_if_lt 47 dX11_costs_35 (by decide) (fun h35 => ?_) (fun h35 => ?_)
  · refine jx_aload_n dX11_costs_47 rfl ?_
    refine jx_iconst (v := 2) dX11_costs_48 (by decide) ?_
    refine jx_Vi (as := [.int _]) dX11_costs_49 mlX11_351 okX11_fail viX11_fail rfl rfl rfl rfl rfl (by decide) (Nat.le_of_ble_eq_true rfl) (tX11_fail hW _) ?_
    refine jx_iret dX11_costs_52 rfl ?_
    exact ⟨rfl, by rw [up_up]⟩
  · refine jx_iload dX11_costs_38 rfl ?_
    refine jx_bipush (v := 95) dX11_costs_40 (by decide) ?_
    refine jx_iload_n dX11_costs_42 rfl ?_
    refine jx_isubE (z := nI (95 - tick)) dX11_costs_43 (pk_sub (a := 95) (b := tick) (by omega)) ?_
    refine jx_icmp_le 53 dX11_costs_44 (by decide) (fun h44 => ?_) (fun h44 => ?_)
    · exfalso
      rw [Int32.le_iff_toInt_le, nI_toInt (by omega)] at h44
      rw [Int32.not_lt, Int32.le_iff_toInt_le] at h35
      exact hbad ⟨h35, by omega⟩
    · refine jx_aload_n dX11_costs_47 rfl ?_
      refine jx_iconst (v := 2) dX11_costs_48 (by decide) ?_
      refine jx_Vi (as := [.int _]) dX11_costs_49 mlX11_351 okX11_fail viX11_fail rfl rfl rfl rfl rfl (by decide) (Nat.le_of_ble_eq_true rfl) (tX11_fail hW _) ?_
      refine jx_iret dX11_costs_52 rfl ?_
      exact ⟨rfl, by rw [up_up]⟩
set_option maxHeartbeats 1000000 in
set_option maxRecDepth 20000 in
theorem tX11_costs (hW : jWok w l) (hR : RS R) {W H np len : Nat} (hI : RI I W H np len) {p day tick later : Nat} (hp : p < np) (hd : day ≤ 40) (ht : tick < 96) (hl : tick + later < 96) : jRi w l mX11_costs 6 [.ref 1069, .int (nI p), .int (nI day), .int (nI tick), .int (nI later)] (n, shE, I, L, R) (fun r t => r = (if arr I W H len day (I 1072 7) p 0 tick = 1000 ∨ arr I W H len day (I 1072 7) p 0 (tick + later) = 1000 then -1 else nI (arr I W H len day (I 1072 7) p 0 (tick + later)) - nI (arr I W H len day (I 1072 7) p 0 tick)) ∧ ∃ J, t = (n, shE, J, L, R) ∧ eqs (upI I 1069 2 0) J) := by
  refine jRi_of hW (by decide) rfl (Nat.le_of_ble_eq_true rfl) ?_
  have hI0 := hI.kp (k0 I)
  have hT := hI0.1.1
  have hz := hT.wh
  have hw3 := hT.2.2.1
  have hw9 := hT.2.2.2.1
  have hh1 := hT.2.2.2.2.1
  have hh7 := hT.2.2.2.2.2
  have hnp := hI0.2.2.2.2.1.2
  refine jx_aload_n dX11_costs_0 rfl ?_
  refine jx_iconst (v := 0) dX11_costs_1 (by decide) ?_
  refine jx_putI dX11_costs_2 flX11_187 rfl rfl (fun r h => by cases h; rfl) ?_
  refine jx_aload_n dX11_costs_5 rfl ?_
  refine jx_iload_n dX11_costs_6 rfl ?_
  refine jx_Vi (as := [.int _]) dX11_costs_7 mlX11_448 okX11_isParty viX11_isParty rfl rfl rfl rfl rfl (by decide) (Nat.le_of_ble_eq_true rfl) (tX11_isPartyT hW hR (hI0.2.2.2.2.1.1) hI0.2.2.2.2.1.2 hp) ?_
  refine jx_ifB_eq 27 dX11_costs_10 (by decide) (fun h10 => by cases h10) (fun h10 => ?_)
  refine jx_iload_n dX11_costs_13 rfl ?_
  refine jx_Si (as := [.int _]) dX11_costs_14 mlX11_438 okX11_isDay stX11_isDay rfl rfl (by decide) (Nat.le_of_ble_eq_true rfl) (tX11_isDayT hW hd) ?_
  refine jx_ifB_eq 27 dX11_costs_17 (by decide) (fun h17 => by cases h17) (fun h17 => ?_)
  refine jx_iload_n dX11_costs_20 rfl ?_
  refine jx_Si (as := [.int _]) dX11_costs_21 mlX11_445 okX11_isTick stX11_isTick rfl rfl (by decide) (Nat.le_of_ble_eq_true rfl) (tX11_isTickT hW ht) ?_
  refine jx_ifB_ne 33 dX11_costs_24 (by decide) (fun h24 => ?_) (fun h24 => by cases h24)
  refine jx_iload dX11_costs_33 rfl ?_
  refine jx_ifN_lt (a := later) 47 dX11_costs_35 (by decide) (by omega) ?_
  refine jx_iload dX11_costs_38 rfl ?_
  refine jx_bipush (v := 95) dX11_costs_40 (by decide) ?_
  refine jx_iload_n dX11_costs_42 rfl ?_
  refine jx_isubE (z := nI (95 - tick)) dX11_costs_43 (pk_sub (a := 95) (b := tick) (by omega)) ?_
  refine jx_icmpN_le (a := later) (b := (95 - tick)) 53 dX11_costs_44 (by decide) (by omega) (by omega) (fun h44 => ?_) (fun h44 => ?_)
  · refine jx_aload_n dX11_costs_53 rfl ?_
    refine jx_iload_n dX11_costs_54 rfl ?_
    refine jx_iload_n dX11_costs_55 rfl ?_
    refine jx_aload_n dX11_costs_56 rfl ?_
    refine jx_getR dX11_costs_57 flX11_34 rfl rfl (hR _ _ _ rfl) ?_
    refine jx_bipush (v := 7) dX11_costs_60 (by decide) ?_
    refine jx_ialdN (7) dX11_costs_62 rfl (rfl) (by omega) (by omega) ?_
    refine jx_iconst (v := 0) dX11_costs_63 (by decide) ?_
    refine jx_VRv (as := [.int _, .int _, .int _, .int _]) dX11_costs_64 mlX11_451 okX11_tellParty viX11_tellParty rfl rfl rfl rfl rfl (by decide) (Nat.le_of_ble_eq_true rfl) (tX11_tellParty (fog := 0) hW hR hI0 hp hd (by omega) _) (fun t64 hq64 => ?_)
    obtain ⟨J1, rfl, he1, hts⟩ := hq64
    have eA : ∀ t, arr (upI I 1069 2 0) W H len day (upI I 1069 2 0 1072 7) p 0 t = arr I W H len day (I 1072 7) p 0 t := fun t => by rw [arr_kp (k0 I), k0 I 1072 (by omega) (by omega)]
    have hal := fun t => arr_le I W H len day (I 1072 7) p 0 t
    have hal1 := hal tick
    have hal2 := hal (tick + later)
    refine jx_aload_n dX11_costs_67 rfl ?_
    refine jx_iload_n dX11_costs_68 rfl ?_
    refine jx_iload_n dX11_costs_69 rfl ?_
    refine jx_Vi (as := [.int _, .int _]) dX11_costs_70 mlX11_454 okX11_arrives viX11_arrives rfl rfl rfl rfl rfl (by decide) (Nat.le_of_ble_eq_true rfl) (tX11_arrivesP hW hR hI0 he1 hts hp ht) ?_
    rw [eA]
    refine jx_istore dX11_costs_73 (by decide) ?_
    refine jx_aload_n dX11_costs_75 rfl ?_
    refine jx_iload_n dX11_costs_76 rfl ?_
    refine jx_iload_n dX11_costs_77 rfl ?_
    refine jx_iload dX11_costs_78 rfl ?_
    refine jx_iaddE (z := nI (tick + later)) dX11_costs_80 (nI_add tick later) ?_
    refine jx_Vi (as := [.int _, .int _]) dX11_costs_81 mlX11_454 okX11_arrives viX11_arrives rfl rfl rfl rfl rfl (by decide) (Nat.le_of_ble_eq_true rfl) (tX11_arrivesP hW hR hI0 he1 hts hp hl) ?_
    rw [eA]
    refine jx_istore dX11_costs_84 (by decide) ?_
    refine jx_iload dX11_costs_86 rfl ?_
    refine jx_iconst (v := -1) dX11_costs_88 (by decide) ?_
    refine jx_icmp_eq 98 dX11_costs_89 (by decide) (fun h89 => ?_) (fun h89 => ?_)
    · refine jx_iconst (v := -1) dX11_costs_98 (by decide) ?_
      refine jx_goto 107 dX11_costs_99 (by decide) ?_
      refine jx_iret dX11_costs_107 rfl ?_
      refine ⟨_, rfl, ?_, _, rfl, he1⟩
      first | (rw [if_pos (Or.inl ((aI_m (by omega)).mp h89))]; done) | (rw [if_pos (Or.inr ((aI_m (by omega)).mp h95))]; done) | (have q1 : ¬ arr I W H len day (I 1072 7) p 0 tick = 1000 := (fun z => h89 ((aI_m (by omega)).mpr z)); have q2 : ¬ arr I W H len day (I 1072 7) p 0 (tick + later) = 1000 := (fun z => h95 ((aI_m (by omega)).mpr z)); rw [if_neg (fun z => z.elim q1 q2), aI_v q1, aI_v q2])
    · refine jx_iload dX11_costs_92 rfl ?_
      refine jx_iconst (v := -1) dX11_costs_94 (by decide) ?_
      refine jx_icmp_ne 102 dX11_costs_95 (by decide) (fun h95 => ?_) (fun h95 => ?_)
      · refine jx_iload dX11_costs_102 rfl ?_
        refine jx_iload dX11_costs_104 rfl ?_
        refine jx_isub dX11_costs_106 ?_
        refine jx_iret dX11_costs_107 rfl ?_
        refine ⟨_, rfl, ?_, _, rfl, he1⟩
        first | (rw [if_pos (Or.inl ((aI_m (by omega)).mp h89))]; done) | (rw [if_pos (Or.inr ((aI_m (by omega)).mp h95))]; done) | (have q1 : ¬ arr I W H len day (I 1072 7) p 0 tick = 1000 := (fun z => h89 ((aI_m (by omega)).mpr z)); have q2 : ¬ arr I W H len day (I 1072 7) p 0 (tick + later) = 1000 := (fun z => h95 ((aI_m (by omega)).mpr z)); rw [if_neg (fun z => z.elim q1 q2), aI_v q1, aI_v q2])
      · refine jx_iconst (v := -1) dX11_costs_98 (by decide) ?_
        refine jx_goto 107 dX11_costs_99 (by decide) ?_
        refine jx_iret dX11_costs_107 rfl ?_
        refine ⟨_, rfl, ?_, _, rfl, he1⟩
        first | (rw [if_pos (Or.inl ((aI_m (by omega)).mp h89))]; done) | (rw [if_pos (Or.inr ((aI_m (by omega)).mp h95))]; done) | (have q1 : ¬ arr I W H len day (I 1072 7) p 0 tick = 1000 := (fun z => h89 ((aI_m (by omega)).mpr z)); have q2 : ¬ arr I W H len day (I 1072 7) p 0 (tick + later) = 1000 := (fun z => h95 ((aI_m (by omega)).mpr z)); rw [if_neg (fun z => z.elim q1 q2), aI_v q1, aI_v q2])
  · omega
set_option maxHeartbeats 1000000 in
set_option maxRecDepth 20000 in
theorem tX11_warningF (hW : jWok w l) (hR : RS R) {W H np len : Nat} (hI : RI I W H np len) (p day tick : Int32) (hbad : ¬ (ltQ p np = true ∧ dayQ day = true ∧ tickQ tick = true)) : jCD w l mX11_warning 3 [.ref 1069, .int p, .int day, .int tick] (n, shE, I, L, R) (some (.int 0)) (n, shE, upI I 1069 2 1, L, R) := by
  refine jCD_of hW (by decide) rfl (Nat.le_of_ble_eq_true rfl) ?_
  have hI0 := hI.kp (k0 I)
  refine jx_aload_n dX11_warning_0 rfl ?_
  refine jx_iconst (v := 0) dX11_warning_1 (by decide) ?_
  refine jx_putI dX11_warning_2 flX11_187 rfl rfl (fun r h => by cases h; rfl) ?_
  refine jx_aload_n dX11_warning_5 rfl ?_
  refine jx_iload_n dX11_warning_6 rfl ?_
  refine jx_Vi (as := [.int _]) dX11_warning_7 mlX11_448 okX11_isParty viX11_isParty rfl rfl rfl rfl rfl (by decide) (Nat.le_of_ble_eq_true rfl) (tX11_isParty hW hR (hI0.2.2.2.2.1.1) hI0.2.2.2.2.1.2 _) ?_
  refine jx_ifB_eq 27 dX11_warning_10 (by decide) (fun h10 => ?_) (fun h10 => ?_)
  · refine jx_aload_n dX11_warning_27 rfl ?_
    refine jx_iconst (v := 1) dX11_warning_28 (by decide) ?_
    refine jx_Vi (as := [.int _]) dX11_warning_29 mlX11_351 okX11_fail viX11_fail rfl rfl rfl rfl rfl (by decide) (Nat.le_of_ble_eq_true rfl) (tX11_fail hW _) ?_
    refine jx_iret dX11_warning_32 rfl ?_
    exact ⟨rfl, by rw [up_up]⟩
  · refine jx_iload_n dX11_warning_13 rfl ?_
    refine jx_Si (as := [.int _]) dX11_warning_14 mlX11_438 okX11_isDay stX11_isDay rfl rfl (by decide) (Nat.le_of_ble_eq_true rfl) (tX11_isDay hW _) ?_
    refine jx_ifB_eq 27 dX11_warning_17 (by decide) (fun h17 => ?_) (fun h17 => ?_)
    · refine jx_aload_n dX11_warning_27 rfl ?_
      refine jx_iconst (v := 1) dX11_warning_28 (by decide) ?_
      refine jx_Vi (as := [.int _]) dX11_warning_29 mlX11_351 okX11_fail viX11_fail rfl rfl rfl rfl rfl (by decide) (Nat.le_of_ble_eq_true rfl) (tX11_fail hW _) ?_
      refine jx_iret dX11_warning_32 rfl ?_
      exact ⟨rfl, by rw [up_up]⟩
    · refine jx_iload_n dX11_warning_20 rfl ?_
      refine jx_Si (as := [.int _]) dX11_warning_21 mlX11_445 okX11_isTick stX11_isTick rfl rfl (by decide) (Nat.le_of_ble_eq_true rfl) (tX11_isTick hW _) ?_
      refine jx_ifB_ne 33 dX11_warning_24 (by decide) (fun h24 => ?_) (fun h24 => ?_)
      · exact absurd ⟨h10, h17, h24⟩ hbad
      · refine jx_aload_n dX11_warning_27 rfl ?_
        refine jx_iconst (v := 1) dX11_warning_28 (by decide) ?_
        refine jx_Vi (as := [.int _]) dX11_warning_29 mlX11_351 okX11_fail viX11_fail rfl rfl rfl rfl rfl (by decide) (Nat.le_of_ble_eq_true rfl) (tX11_fail hW _) ?_
        refine jx_iret dX11_warning_32 rfl ?_
        exact ⟨rfl, by rw [up_up]⟩
set_option maxHeartbeats 1000000 in
set_option maxRecDepth 20000 in
theorem tX11_warning (hW : jWok w l) (hR : RS R) {W H np len : Nat} (hI : RI I W H np len) {p day tick : Nat} (hp : p < np) (hd : day ≤ 40) (ht : tick < 96) : jRi w l mX11_warning 6 [.ref 1069, .int (nI p), .int (nI day), .int (nI tick)] (n, shE, I, L, R) (fun r t => r = oI (fnd (fun v => decide (arr I W H len day (nI v) p 0 tick = 1000)) 10) ∧ ∃ J, t = (n, shE, J, L, R) ∧ eqs (upI I 1069 2 0) J) := by
  refine jRi_of hW (by decide) rfl (Nat.le_of_ble_eq_true rfl) ?_
  have hI0 := hI.kp (k0 I)
  have hT := hI0.1.1
  have hz := hT.wh
  have hw3 := hT.2.2.1
  have hw9 := hT.2.2.2.1
  have hh1 := hT.2.2.2.2.1
  have hh7 := hT.2.2.2.2.2
  have hnp := hI0.2.2.2.2.1.2
  refine jx_aload_n dX11_warning_0 rfl ?_
  refine jx_iconst (v := 0) dX11_warning_1 (by decide) ?_
  refine jx_putI dX11_warning_2 flX11_187 rfl rfl (fun r h => by cases h; rfl) ?_
  refine jx_aload_n dX11_warning_5 rfl ?_
  refine jx_iload_n dX11_warning_6 rfl ?_
  refine jx_Vi (as := [.int _]) dX11_warning_7 mlX11_448 okX11_isParty viX11_isParty rfl rfl rfl rfl rfl (by decide) (Nat.le_of_ble_eq_true rfl) (tX11_isPartyT hW hR (hI0.2.2.2.2.1.1) hI0.2.2.2.2.1.2 hp) ?_
  refine jx_ifB_eq 27 dX11_warning_10 (by decide) (fun h10 => by cases h10) (fun h10 => ?_)
  refine jx_iload_n dX11_warning_13 rfl ?_
  refine jx_Si (as := [.int _]) dX11_warning_14 mlX11_438 okX11_isDay stX11_isDay rfl rfl (by decide) (Nat.le_of_ble_eq_true rfl) (tX11_isDayT hW hd) ?_
  refine jx_ifB_eq 27 dX11_warning_17 (by decide) (fun h17 => by cases h17) (fun h17 => ?_)
  refine jx_iload_n dX11_warning_20 rfl ?_
  refine jx_Si (as := [.int _]) dX11_warning_21 mlX11_445 okX11_isTick stX11_isTick rfl rfl (by decide) (Nat.le_of_ble_eq_true rfl) (tX11_isTickT hW ht) ?_
  refine jx_ifB_ne 33 dX11_warning_24 (by decide) (fun h24 => ?_) (fun h24 => by cases h24)
  refine jx_iconst (v := 0) dX11_warning_33 (by decide) ?_
  refine jx_istore dX11_warning_34 (by decide) ?_
  have key : ∀ v, v ≤ 10 → fnd (fun v => decide (arr I W H len day (nI v) p 0 tick = 1000)) v = none → ∀ J1, eqs (upI I 1069 2 0) J1 → jWP w l mX11_warning 6 0 0 (fun v t => ∃ r, v = some (.int r) ∧ (fun r t => r = oI (fnd (fun v => decide (arr I W H len day (nI v) p 0 tick = 1000)) 10) ∧ ∃ J, t = (n, shE, J, L, R) ∧ eqs (upI I 1069 2 0) J) r t) (fun _ _ => False) 36 [(0, .ref 1069), (1, .int (nI p)), (2, .int (nI day)), (3, .int (nI tick)), (4, .int (nI v))] [] (n, shE, J1, L, R) := by
    refine jdown _ (fun v hv ih => ?_)
    intro hf J1 he1
    have hk1 := kp_t (k0 I) (eqs_kp he1)
    have hJ1 := hI.kp hk1
    refine jx_iload dX11_warning_36 rfl ?_
    refine jx_bipush (v := 10) dX11_warning_38 (by decide) ?_
    refine jx_icmpN_ge (a := v) (b := 10) 71 dX11_warning_40 (by decide) (by omega) (by omega) (fun h40 => ?_) (fun h40 => ?_)
    · refine jx_iconst (v := -1) dX11_warning_71 (by decide) ?_
      refine jx_iret dX11_warning_72 rfl ?_
      have hv10 : v = 10 := by omega
      subst hv10
      refine ⟨_, rfl, ?_, _, rfl, he1⟩
      rw [hf]; rfl
    · refine jx_aload_n dX11_warning_43 rfl ?_
      refine jx_iload_n dX11_warning_44 rfl ?_
      refine jx_iload_n dX11_warning_45 rfl ?_
      refine jx_iload dX11_warning_46 rfl ?_
      refine jx_iconst (v := 0) dX11_warning_48 (by decide) ?_
      refine jx_VRv (as := [.int _, .int _, .int _, .int _]) dX11_warning_49 mlX11_451 okX11_tellParty viX11_tellParty rfl rfl rfl rfl rfl (by decide) (Nat.le_of_ble_eq_true rfl) (tX11_tellParty (fog := 0) hW hR hJ1 hp hd (by omega) _) (fun t49 hq49 => ?_)
      obtain ⟨J2, rfl, he2, hts⟩ := hq49
      refine jx_aload_n dX11_warning_52 rfl ?_
      refine jx_iload_n dX11_warning_53 rfl ?_
      refine jx_iload_n dX11_warning_54 rfl ?_
      refine jx_Vi (as := [.int _, .int _]) dX11_warning_55 mlX11_454 okX11_arrives viX11_arrives rfl rfl rfl rfl rfl (by decide) (Nat.le_of_ble_eq_true rfl) (tX11_arrivesP hW hR hJ1 he2 hts hp ht) ?_
      rw [arr_kp hk1]
      have hal := arr_le I W H len day (nI v) p 0 tick
      refine jx_iconst (v := -1) dX11_warning_58 (by decide) ?_
      refine jx_icmp_ne 65 dX11_warning_59 (by decide) (fun h59 => ?_) (fun h59 => ?_)
      · refine jx_iinc dX11_warning_65 rfl (v := nI (v + 1)) (nI_1 _) (by decide) ?_
        refine jx_goto 36 dX11_warning_68 (by decide) ?_
        refine jx_ls (by exact ⟨rfl, rfl, rfl, rfl, rfl, trivial⟩) (ih (by omega) ?_ _ (eqs_t he1 he2))
        show (match fnd (fun v => decide (arr I W H len day (nI v) p 0 tick = 1000)) v with | some t => some t | none => if (fun v => decide (arr I W H len day (nI v) p 0 tick = 1000)) v = true then some v else none) = none
        rw [hf]
        exact if_neg (fun z => h59 ((aI_m (by omega)).mpr (of_decide_eq_true z)))
      · refine jx_iload dX11_warning_62 rfl ?_
        refine jx_iret dX11_warning_64 rfl ?_
        refine ⟨_, rfl, ?_, _, rfl, eqs_t he1 he2⟩
        have e : fnd (fun v => decide (arr I W H len day (nI v) p 0 tick = 1000)) 10 = some v := fnd_some.mpr ⟨by omega, decide_eq_true ((aI_m (by omega)).mp h59), fnd_none.mp hf⟩
        rw [e]; rfl
  exact jx_ls (by exact ⟨rfl, rfl, rfl, rfl, rfl, trivial⟩) (key 0 (by omega) rfl _ (eqs_r _))
end RJ
