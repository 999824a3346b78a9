/-! THE REFERENCE: vigils, rents, fogs -/
def wf (I : Nat → Nat → Int32) (f : Nat) : Nat := cN (I 1072 (12 + f))
def pfx (I : Nat → Nat → Int32) : Nat → Nat
  | 0 => 0
  | f + 1 => pfx I f + wf I f
def vgC (I : Nat → Nat → Int32) (a : Nat → Nat) : Nat → Nat
  | 0 => 0
  | f + 1 => if a f = 1000 then vgC I a f else vgC I a f + wf I f
def vgS (I : Nat → Nat → Int32) (a : Nat → Nat) (tick : Nat) : Nat → Nat
  | 0 => 0
  | f + 1 => if a f = 1000 then vgS I a tick f else vgS I a tick f + wf I f * (a f - tick)
def vgV (all can sum k : Nat) : Nat := if k < 2 then (if k = 0 then can / Nat.gcd all can else all / Nat.gcd all can) else if k = 2 then sum / (if can = 0 then 1 else Nat.gcd can sum) else if can = 0 then 1 else can / Nat.gcd can sum
theorem pfx_le {I : Nat → Nat → Int32} {W H np len : Nat} (hI : RI I W H np len) : ∀ f, f ≤ 4 → pfx I f ≤ 9 * f
  | 0, _ => Nat.le_refl _
  | f + 1, h => by
    have := pfx_le hI f (by omega)
    have h2 : wf I f ≤ 9 := (hI.2.2.2.2.2.2.2.1 f (by omega)).2
    show pfx I f + wf I f ≤ _
    omega
theorem vgC_le {I : Nat → Nat → Int32} {W H np len : Nat} (hI : RI I W H np len) (a : Nat → Nat) : ∀ f, f ≤ 4 → vgC I a f ≤ 9 * f
  | 0, _ => Nat.le_refl _
  | f + 1, h => by
    have := vgC_le hI a f (by omega)
    have h2 : wf I f ≤ 9 := (hI.2.2.2.2.2.2.2.1 f (by omega)).2
    show (if a f = 1000 then vgC I a f else vgC I a f + wf I f) ≤ _
    split <;> omega
theorem vgS_le {I : Nat → Nat → Int32} {W H np len : Nat} (hI : RI I W H np len) (a : Nat → Nat) (tick : Nat) (ha : ∀ f, a f ≤ 1000) : ∀ f, f ≤ 4 → vgS I a tick f ≤ 9000 * f
  | 0, _ => Nat.le_refl _
  | f + 1, h => by
    have := vgS_le hI a tick ha f (by omega)
    have h2 : wf I f ≤ 9 := (hI.2.2.2.2.2.2.2.1 f (by omega)).2
    have h3 : wf I f * (a f - tick) ≤ 9 * 1000 := Nat.mul_le_mul h2 (by have := ha f; omega)
    show (if a f = 1000 then vgS I a tick f else vgS I a tick f + wf I f * (a f - tick)) ≤ _
    split <;> omega
/-- who comes over by a horse or on stilts -/
def byK (I : Nat → Nat → Int32) (W H len day tick kind p : Nat) : Bool := decide (¬ sn W H (paceOf kind (cN (I 1077 p)) 0) (mK I W H len day (I 1072 7) kind (cN (I 1078 p))) (W * cN (I 1079 p)) tick = 1000)
def tkH (bh bs : Nat → Bool) (h s p : Nat) : Bool := bh p && (!(bs p) || decide (h ≤ s))
def gH (bh bs : Nat → Bool) (np h s : Nat) : Nat := h * cntN (tkH bh bs h s) np
def gS (bh bs : Nat → Bool) (np h s : Nat) : Nat := s * cntN (fun p => bs p && !(tkH bh bs h s p)) np
def rst (bh bs : Nat → Bool) (np h s : Nat) : Bool := !(anyN (fun k => decide (gH bh bs np h s < gH bh bs np (k + 1) s) || decide (gS bh bs np h s < gS bh bs np h (k + 1))) 9)
def rf (bh bs : Nat → Bool) (np i : Nat) : Bool := rst bh bs np (i / 9 + 1) (i % 9 + 1)
def rntV (bh bs : Nat → Bool) (np k : Nat) : Int32 := if k = 0 then nI (cntN (rf bh bs np) 81) else oI ((fnd (rf bh bs np) 81).map (fun i => 10 * (i / 9 + 1) + (i % 9 + 1)))
def drw (v : Int32) : Int32 := (v >>> (16 &&& 31)) &&& 32767
theorem and_pos (x : Int32) : 0 ≤ (x &&& 32767).toInt ∧ (x &&& 32767).toInt ≤ 32767 := by
  have e : (x &&& 32767).toBitVec = x.toBitVec &&& (32767 : Int32).toBitVec := Int32.toBitVec_and x 32767
  have e2 : (x &&& 32767).toBitVec.toNat ≤ 32767 := by
    rw [e, BitVec.toNat_and]
    exact Nat.and_le_right
  have e3 : (x &&& 32767).toInt = (x &&& 32767).toBitVec.toInt := rfl
  rw [e3, BitVec.toInt_eq_toNat_of_lt (by omega)]
  omega
def sd (v : Int32) : Nat → Int32
  | 0 => v
  | k + 1 => sd v k * 1103515245 + 12345
def stf (I : Nat → Nat → Int32) (x : Nat) : Nat := (fnd (fun f => decide (x < pfx I (f + 1))) 4).getD 0
def fgT (I : Nat → Nat → Int32) (W H len p tick : Nat) (v : Int32) (d : Nat) : Bool := decide (¬ arr I W H len d (I 1072 7) p (stf I (cN (drw (sd v (d + 1))) % pfx I 4)) tick = 1000)
section RO
variable {w : jWD} {l : Launch} {n : Nat} {I J : Nat → Nat → Int32} {L : Nat → Nat → Int64} {R : Nat → Nat → Option Nat}

set_option maxHeartbeats 1000000 in
set_option maxRecDepth 20000 in
theorem tX11_common (hW : jWok w l) {a b : Nat} (ha : a < 2 ^ 31) (hb : b < 2 ^ 31) (σ : jHS) : jCD w l mX11_common 1 [.int (nI a), .int (nI b)] σ (some (.int (nI (Nat.gcd a b)))) σ := by
  refine jCD_of hW (by decide) rfl (Nat.le_of_ble_eq_true rfl) ?_
  have key : ∀ y x, x < 2 ^ 31 → y < 2 ^ 31 → Nat.gcd x y = Nat.gcd a b → jWP w l mX11_common 1 0 0 (fun r t => r = some (.int (nI (Nat.gcd a b))) ∧ t = σ) (fun _ _ => False) 4 [(0, .int (nI a)), (1, .int (nI b)), (2, .int (nI x)), (3, .int (nI y))] [] σ := by
    intro y
    induction y using Nat.strongRecOn with
    | _ y ih =>
      intro x hx hy hg
      refine jx_iload_n dX11_common_4 rfl ?_
      refine jx_ifN_eq (a := y) 21 dX11_common_5 (by decide) (by omega) (fun h5 => ?_) (fun h5 => ?_)
      · refine jx_iload_n dX11_common_21 rfl ?_
        refine jx_iret dX11_common_22 rfl ?_
        subst h5
        refine ⟨?_, rfl⟩
        rw [← hg, Nat.gcd_zero_right]
      · refine jx_iload_n dX11_common_8 rfl ?_
        refine jx_iload_n dX11_common_9 rfl ?_
        refine jx_iremE (z := nI (x % y)) dX11_common_10 (nI_ne0 (n := y) (by omega) (by omega)) (pk_rem (a := x) (d := y) (by omega) (by omega) (by omega)) ?_
        refine jx_istore dX11_common_11 (by decide) ?_
        refine jx_iload_n dX11_common_13 rfl ?_
        refine jx_istore_n dX11_common_14 rfl (by decide) ?_
        refine jx_iload dX11_common_15 rfl ?_
        refine jx_istore_n dX11_common_17 rfl (by decide) ?_
        refine jx_goto 4 dX11_common_18 (by decide) ?_
        have hlt := Nat.mod_lt x (y := y) (by omega)
        exact jx_ls (by exact ⟨rfl, rfl, rfl, rfl, trivial⟩) (ih (x % y) hlt y hy (by omega) (by rw [← hg, Nat.gcd_comm x y, Nat.gcd_rec y x, Nat.gcd_comm]))
  refine jx_iload_n dX11_common_0 rfl ?_
  refine jx_istore_n dX11_common_1 rfl (by decide) ?_
  refine jx_iload_n dX11_common_2 rfl ?_
  refine jx_istore_n dX11_common_3 rfl (by decide) ?_
  exact jx_ls (by exact ⟨rfl, rfl, rfl, rfl, trivial⟩) (key b a ha hb rfl)
set_option maxHeartbeats 1000000 in
set_option maxRecDepth 20000 in
theorem tX11_vigilF (hW : jWok w l) (hR : RS R) {W H np len : Nat} (hI : RI I W H np len) (p day tick k : Int32) (hbad : ¬ (ltQ p np = true ∧ dayQ day = true ∧ tickQ tick = true ∧ 0 ≤ k.toInt ∧ k.toInt ≤ 3)) : jCD w l mX11_vigil 3 [.ref 1069, .int p, .int day, .int tick, .int k] (n, shE, I, L, R) (some (.int 0)) (n, shE, upI I 1069 2 1, L, R) := by
  refine jCD_of hW (by decide) rfl (Nat.le_of_ble_eq_true rfl) ?_
  have hI0 := hI.kp (k0 I)
  refine jx_aload_n dX11_vigil_0 rfl ?_
  refine jx_iconst (v := 0) dX11_vigil_1 (by decide) ?_
  refine jx_putI dX11_vigil_2 flX11_187 rfl rfl (fun r h => by cases h; rfl) ?_
  refine jx_aload_n dX11_vigil_5 rfl ?_
  refine jx_iload_n dX11_vigil_6 rfl ?_
  refine jx_Vi (as := [.int _]) dX11_vigil_7 mlX11_448 okX11_isParty viX11_isParty rfl rfl rfl rfl rfl (by decide) (Nat.le_of_ble_eq_true rfl) (tX11_isParty hW hR (hI0.2.2.2.2.1.1) hI0.2.2.2.2.1.2 _) ?_
  refine jx_ifB_eq 40 dX11_vigil_10 (by decide) (fun h10 => ?_) (fun h10 => ?_)
  · refine jx_aload_n dX11_vigil_40 rfl ?_
    refine jx_iconst (v := 1) dX11_vigil_41 (by decide) ?_
    refine jx_Vi (as := [.int _]) dX11_vigil_42 mlX11_351 okX11_fail viX11_fail rfl rfl rfl rfl rfl (by decide) (Nat.le_of_ble_eq_true rfl) (tX11_fail hW _) ?_
    refine jx_iret dX11_vigil_45 rfl ?_
    exact ⟨rfl, by rw [up_up]⟩
  · refine jx_iload_n dX11_vigil_13 rfl ?_
    refine jx_Si (as := [.int _]) dX11_vigil_14 mlX11_438 okX11_isDay stX11_isDay rfl rfl (by decide) (Nat.le_of_ble_eq_true rfl) (tX11_isDay hW _) ?_
    refine jx_ifB_eq 40 dX11_vigil_17 (by decide) (fun h17 => ?_) (fun h17 => ?_)
    · refine jx_aload_n dX11_vigil_40 rfl ?_
      refine jx_iconst (v := 1) dX11_vigil_41 (by decide) ?_
      refine jx_Vi (as := [.int _]) dX11_vigil_42 mlX11_351 okX11_fail viX11_fail rfl rfl rfl rfl rfl (by decide) (Nat.le_of_ble_eq_true rfl) (tX11_fail hW _) ?_
      refine jx_iret dX11_vigil_45 rfl ?_
      exact ⟨rfl, by rw [up_up]⟩
    · refine jx_iload_n dX11_vigil_20 rfl ?_
      refine jx_Si (as := [.int _]) dX11_vigil_21 mlX11_445 okX11_isTick stX11_isTick rfl rfl (by decide) (Nat.le_of_ble_eq_true rfl) (tX11_isTick hW _) ?_
      refine jx_ifB_eq 40 dX11_vigil_24 (by decide) (fun h24 => ?_) (fun h24 => ?_)
      · refine jx_aload_n dX11_vigil_40 rfl ?_
        refine jx_iconst (v := 1) dX11_vigil_41 (by decide) ?_
        refine jx_Vi (as := [.int _]) dX11_vigil_42 mlX11_351 okX11_fail viX11_fail rfl rfl rfl rfl rfl (by decide) (Nat.le_of_ble_eq_true rfl) (tX11_fail hW _) ?_
        refine jx_iret dX11_vigil_45 rfl ?_
        exact ⟨rfl, by rw [up_up]⟩
      · refine jx_iload dX11_vigil_27 rfl ?_
        refine jx_i2l dX11_vigil_29 ?_
        refine jx_lconst (v := 0) dX11_vigil_30 (by decide) ?_
        refine jx_ldc2 dX11_vigil_31 ctX11_462 ?_
        refine jx_Si (as := [.long _, .long _, .long _]) dX11_vigil_34 mlX11_190 okX11_isIn stX11_isIn rfl rfl (by decide) (Nat.le_of_ble_eq_true rfl) (tX11_isInC hW 0 3 (by decide) (by decide) _) ?_
        refine jx_ifB_ne 46 dX11_vigil_37 (by decide) (fun h37 => ?_) (fun h37 => ?_)
        · exact absurd ⟨h10, h17, h24, (of_decide_eq_true h37).1, (of_decide_eq_true h37).2⟩ hbad
        · refine jx_aload_n dX11_vigil_40 rfl ?_
          refine jx_iconst (v := 1) dX11_vigil_41 (by decide) ?_
          refine jx_Vi (as := [.int _]) dX11_vigil_42 mlX11_351 okX11_fail viX11_fail rfl rfl rfl rfl rfl (by decide) (Nat.le_of_ble_eq_true rfl) (tX11_fail hW _) ?_
          refine jx_iret dX11_vigil_45 rfl ?_
          exact ⟨rfl, by rw [up_up]⟩
set_option maxHeartbeats 1000000 in
set_option maxRecDepth 20000 in
theorem tX11_vigil (hW : jWok w l) (hR : RS R) {W H np len : Nat} (hI : RI I W H np len) {p day tick k : Nat} (hp : p < np) (hd : day ≤ 40) (ht : tick < 96) (hk : k ≤ 3) : jRi w l mX11_vigil 6 [.ref 1069, .int (nI p), .int (nI day), .int (nI tick), .int (nI k)] (n, shE, I, L, R) (fun r t => r = nI (vgV (pfx I 4) (vgC I (fun f => arr I W H len day (I 1072 7) p f tick) 4) (vgS I (fun f => arr I W H len day (I 1072 7) p f tick) tick 4) k) ∧ ∃ J, t = (n, shE, J, L, R) ∧ eqs (upI I 1069 2 0) J) := by
  refine jRi_of hW (by decide) rfl (Nat.le_of_ble_eq_true rfl) ?_
  have hI0 := hI.kp (k0 I)
  have hT := hI0.1.1
  have hz := hT.wh
  have hw3 := hT.2.2.1
  have hw9 := hT.2.2.2.1
  have hh1 := hT.2.2.2.2.1
  have hh7 := hT.2.2.2.2.2
  have hnp := hI0.2.2.2.2.1.2
  refine jx_aload_n dX11_vigil_0 rfl ?_
  refine jx_iconst (v := 0) dX11_vigil_1 (by decide) ?_
  refine jx_putI dX11_vigil_2 flX11_187 rfl rfl (fun r h => by cases h; rfl) ?_
  refine jx_aload_n dX11_vigil_5 rfl ?_
  refine jx_iload_n dX11_vigil_6 rfl ?_
  refine jx_Vi (as := [.int _]) dX11_vigil_7 mlX11_448 okX11_isParty viX11_isParty rfl rfl rfl rfl rfl (by decide) (Nat.le_of_ble_eq_true rfl) (tX11_isPartyT hW hR (hI0.2.2.2.2.1.1) hI0.2.2.2.2.1.2 hp) ?_
  refine jx_ifB_eq 40 dX11_vigil_10 (by decide) (fun h10 => by cases h10) (fun h10 => ?_)
  refine jx_iload_n dX11_vigil_13 rfl ?_
  refine jx_Si (as := [.int _]) dX11_vigil_14 mlX11_438 okX11_isDay stX11_isDay rfl rfl (by decide) (Nat.le_of_ble_eq_true rfl) (tX11_isDayT hW hd) ?_
  refine jx_ifB_eq 40 dX11_vigil_17 (by decide) (fun h17 => by cases h17) (fun h17 => ?_)
  refine jx_iload_n dX11_vigil_20 rfl ?_
  refine jx_Si (as := [.int _]) dX11_vigil_21 mlX11_445 okX11_isTick stX11_isTick rfl rfl (by decide) (Nat.le_of_ble_eq_true rfl) (tX11_isTickT hW ht) ?_
  refine jx_ifB_eq 40 dX11_vigil_24 (by decide) (fun h24 => by cases h24) (fun h24 => ?_)
  refine jx_iload dX11_vigil_27 rfl ?_
  refine jx_i2l dX11_vigil_29 ?_
  refine jx_lconst (v := 0) dX11_vigil_30 (by decide) ?_
  refine jx_ldc2 dX11_vigil_31 ctX11_462 ?_
  refine jx_Si (as := [.long _, .long _, .long _]) dX11_vigil_34 mlX11_190 okX11_isIn stX11_isIn rfl rfl (by decide) (Nat.le_of_ble_eq_true rfl) (tX11_isInC hW 0 3 (by decide) (by decide) _) ?_
  refine jx_ifB_ne 46 dX11_vigil_37 (by decide) (fun h37 => ?_) (fun h37 => ?_)
  · refine jx_iconst (v := 0) dX11_vigil_46 (by decide) ?_
    refine jx_istore dX11_vigil_47 (by decide) ?_
    refine jx_iconst (v := 0) dX11_vigil_49 (by decide) ?_
    refine jx_istore dX11_vigil_50 (by decide) ?_
    refine jx_iconst (v := 0) dX11_vigil_52 (by decide) ?_
    refine jx_istore dX11_vigil_53 (by decide) ?_
    refine jx_iconst (v := 0) dX11_vigil_55 (by decide) ?_
    refine jx_istore dX11_vigil_56 (by decide) ?_
    have hfw := hI.2.2.2.2.2.2.2.1
    have hal := fun f => arr_le I W H len day (I 1072 7) p f tick
    have key : ∀ f, f ≤ 4 → ∀ J, eqs (upI I 1069 2 0) J → jWP w l mX11_vigil 6 0 0 (fun v t => ∃ r, v = some (.int r) ∧ (fun r t => r = nI (vgV (pfx I 4) (vgC I (fun f => arr I W H len day (I 1072 7) p f tick) 4) (vgS I (fun f => arr I W H len day (I 1072 7) p f tick) tick 4) k) ∧ ∃ J, t = (n, shE, J, L, R) ∧ eqs (upI I 1069 2 0) J) r t) (fun _ _ => False) 58 [(0, .ref 1069), (1, .int (nI p)), (2, .int (nI day)), (3, .int (nI tick)), (4, .int (nI k)), (5, .int (nI (pfx I f))), (6, .int (nI (vgC I (fun f => arr I W H len day (I 1072 7) p f tick) f))), (7, .int (nI (vgS I (fun f => arr I W H len day (I 1072 7) p f tick) tick f))), (8, .int (nI f))] [] (n, shE, J, L, R) := by
      refine jdown _ (fun f hf ih => ?_)
      intro J he
      have hkp := kp_t (k0 I) (eqs_kp he)
      have hJ := hI.kp hkp
      have b1 := pfx_le hI f hf
      have b2 := vgC_le hI (fun f => arr I W H len day (I 1072 7) p f tick) f hf
      have b3 := vgS_le hI (fun f => arr I W H len day (I 1072 7) p f tick) tick hal f hf
      refine jx_iload dX11_vigil_58 rfl ?_
      refine jx_iconst (v := 4) dX11_vigil_60 (by decide) ?_
      refine jx_icmpN_ge (a := f) (b := 4) 152 dX11_vigil_61 (by decide) (by omega) (by omega) (fun h61 => ?_) (fun h61 => ?_)
      · have h4 : f = 4 := by omega
        subst h4
        have hpos : 0 < pfx I 4 := by
          have := hI.2.2.2.2.2.2.2.2
          show 0 < 0 + cN (I 1072 12) + cN (I 1072 13) + cN (I 1072 14) + cN (I 1072 15)
          omega
        have g1 := Nat.gcd_pos_of_pos_left (vgC I (fun f => arr I W H len day (I 1072 7) p f tick) 4) hpos
        have g2 := Nat.le_of_dvd hpos (Nat.gcd_dvd_left (pfx I 4) (vgC I (fun f => arr I W H len day (I 1072 7) p f tick) 4))
        refine jx_iload dX11_vigil_152 rfl ?_
        refine jx_iconst (v := 2) dX11_vigil_154 (by decide) ?_
        refine jx_icmpN_ge (a := k) (b := 2) 186 dX11_vigil_155 (by decide) (by omega) (by omega) (fun h155 => ?_) (fun h155 => ?_)
        · refine jx_iload dX11_vigil_186 rfl ?_
          refine jx_ifN_ne (a := (vgC I (fun f => arr I W H len day (I 1072 7) p f tick) 4)) 195 dX11_vigil_188 (by decide) (by omega) (fun h188 => ?_) (fun h188 => ?_)
          · have g3 := Nat.gcd_pos_of_pos_left (vgS I (fun f => arr I W H len day (I 1072 7) p f tick) tick 4) (show 0 < vgC I (fun f => arr I W H len day (I 1072 7) p f tick) 4 by omega)
            have g4 := Nat.le_of_dvd (show 0 < vgC I (fun f => arr I W H len day (I 1072 7) p f tick) 4 by omega) (Nat.gcd_dvd_left (vgC I (fun f => arr I W H len day (I 1072 7) p f tick) 4) (vgS I (fun f => arr I W H len day (I 1072 7) p f tick) tick 4))
            refine jx_iload dX11_vigil_195 rfl ?_
            refine jx_iload dX11_vigil_197 rfl ?_
            refine jx_Si (as := [.int _, .int _]) dX11_vigil_199 mlX11_506 okX11_common stX11_common rfl rfl (by decide) (Nat.le_of_ble_eq_true rfl) (tX11_common hW (by omega) (by omega) _) ?_
            refine jx_istore dX11_vigil_202 (by decide) ?_
            refine jx_iload dX11_vigil_204 rfl ?_
            refine jx_iconst (v := 2) dX11_vigil_206 (by decide) ?_
            refine jx_icmpN_ne (a := k) (b := 2) 218 dX11_vigil_207 (by decide) (by omega) (by omega) (fun h207 => ?_) (fun h207 => ?_)
            · refine jx_iload dX11_vigil_218 rfl ?_
              refine jx_ifN_ne (a := (vgC I (fun f => arr I W H len day (I 1072 7) p f tick) 4)) 227 dX11_vigil_220 (by decide) (by omega) (fun h220 => ?_) (fun h220 => ?_)
              · refine jx_iload dX11_vigil_227 rfl ?_
                refine jx_iload dX11_vigil_229 rfl ?_
                refine jx_idivE (z := nI ((vgC I (fun f => arr I W H len day (I 1072 7) p f tick) 4) / (Nat.gcd (vgC I (fun f => arr I W H len day (I 1072 7) p f tick) 4) (vgS I (fun f => arr I W H len day (I 1072 7) p f tick) tick 4)))) dX11_vigil_231 (nI_ne0 (n := (Nat.gcd (vgC I (fun f => arr I W H len day (I 1072 7) p f tick) 4) (vgS I (fun f => arr I W H len day (I 1072 7) p f tick) tick 4))) (by omega) (by omega)) (pk_div (a := (vgC I (fun f => arr I W H len day (I 1072 7) p f tick) 4)) (d := (Nat.gcd (vgC I (fun f => arr I W H len day (I 1072 7) p f tick) 4) (vgS I (fun f => arr I W H len day (I 1072 7) p f tick) tick 4))) (by omega) (by omega) (by omega)) ?_
                refine jx_iret dX11_vigil_232 rfl ?_
                refine ⟨_, rfl, ?_, _, rfl, he⟩
                unfold vgV
                first | (rw [if_pos h155, if_pos h169]; done) | (rw [if_pos h155, if_neg h169]; done) | (rw [if_neg (by omega), if_pos h207, if_pos h188]; done) | (rw [if_neg (by omega), if_pos h207, if_neg h188]; done) | (rw [if_neg (by omega), if_neg h207, if_pos h188]; rfl) | (rw [if_neg (by omega), if_neg h207, if_neg h188]; done) | (exfalso; omega)
              · refine jx_iconst (v := 1) dX11_vigil_223 (by decide) ?_
                refine jx_goto 232 dX11_vigil_224 (by decide) ?_
                refine jx_iret dX11_vigil_232 rfl ?_
                refine ⟨_, rfl, ?_, _, rfl, he⟩
                unfold vgV
                first | (rw [if_pos h155, if_pos h169]; done) | (rw [if_pos h155, if_neg h169]; done) | (rw [if_neg (by omega), if_pos h207, if_pos h188]; done) | (rw [if_neg (by omega), if_pos h207, if_neg h188]; done) | (rw [if_neg (by omega), if_neg h207, if_pos h188]; rfl) | (rw [if_neg (by omega), if_neg h207, if_neg h188]; done) | (exfalso; omega)
            · refine jx_iload dX11_vigil_210 rfl ?_
              refine jx_iload dX11_vigil_212 rfl ?_
              refine jx_idivE (z := nI ((vgS I (fun f => arr I W H len day (I 1072 7) p f tick) tick 4) / (Nat.gcd (vgC I (fun f => arr I W H len day (I 1072 7) p f tick) 4) (vgS I (fun f => arr I W H len day (I 1072 7) p f tick) tick 4)))) dX11_vigil_214 (nI_ne0 (n := (Nat.gcd (vgC I (fun f => arr I W H len day (I 1072 7) p f tick) 4) (vgS I (fun f => arr I W H len day (I 1072 7) p f tick) tick 4))) (by omega) (by omega)) (pk_div (a := (vgS I (fun f => arr I W H len day (I 1072 7) p f tick) tick 4)) (d := (Nat.gcd (vgC I (fun f => arr I W H len day (I 1072 7) p f tick) 4) (vgS I (fun f => arr I W H len day (I 1072 7) p f tick) tick 4))) (by omega) (by omega) (by omega)) ?_
              refine jx_goto 232 dX11_vigil_215 (by decide) ?_
              refine jx_iret dX11_vigil_232 rfl ?_
              refine ⟨_, rfl, ?_, _, rfl, he⟩
              unfold vgV
              first | (rw [if_pos h155, if_pos h169]; done) | (rw [if_pos h155, if_neg h169]; done) | (rw [if_neg (by omega), if_pos h207, if_pos h188]; done) | (rw [if_neg (by omega), if_pos h207, if_neg h188]; done) | (rw [if_neg (by omega), if_neg h207, if_pos h188]; rfl) | (rw [if_neg (by omega), if_neg h207, if_neg h188]; done) | (exfalso; omega)
          · refine jx_iconst (v := 1) dX11_vigil_191 (by decide) ?_
            refine jx_goto 202 dX11_vigil_192 (by decide) ?_
            refine jx_istore dX11_vigil_202 (by decide) ?_
            refine jx_iload dX11_vigil_204 rfl ?_
            refine jx_iconst (v := 2) dX11_vigil_206 (by decide) ?_
            refine jx_icmpN_ne (a := k) (b := 2) 218 dX11_vigil_207 (by decide) (by omega) (by omega) (fun h207 => ?_) (fun h207 => ?_)
            · refine jx_iload dX11_vigil_218 rfl ?_
              refine jx_ifN_ne (a := (vgC I (fun f => arr I W H len day (I 1072 7) p f tick) 4)) 227 dX11_vigil_220 (by decide) (by omega) (fun h220 => ?_) (fun h220 => ?_)
              · refine jx_iload dX11_vigil_227 rfl ?_
                refine jx_iload dX11_vigil_229 rfl ?_
                refine jx_idivE (z := nI ((vgC I (fun f => arr I W H len day (I 1072 7) p f tick) 4) / 1)) dX11_vigil_231 (nI_ne0 (n := 1) (by omega) (by omega)) (pk_div (a := (vgC I (fun f => arr I W H len day (I 1072 7) p f tick) 4)) (d := 1) (by omega) (by omega) (by omega)) ?_
                refine jx_iret dX11_vigil_232 rfl ?_
                refine ⟨_, rfl, ?_, _, rfl, he⟩
                unfold vgV
                first | (rw [if_pos h155, if_pos h169]; done) | (rw [if_pos h155, if_neg h169]; done) | (rw [if_neg (by omega), if_pos h207, if_pos h188]; done) | (rw [if_neg (by omega), if_pos h207, if_neg h188]; done) | (rw [if_neg (by omega), if_neg h207, if_pos h188]; rfl) | (rw [if_neg (by omega), if_neg h207, if_neg h188]; done) | (exfalso; omega)
              · refine jx_iconst (v := 1) dX11_vigil_223 (by decide) ?_
                refine jx_goto 232 dX11_vigil_224 (by decide) ?_
                refine jx_iret dX11_vigil_232 rfl ?_
                refine ⟨_, rfl, ?_, _, rfl, he⟩
                unfold vgV
                first | (rw [if_pos h155, if_pos h169]; done) | (rw [if_pos h155, if_neg h169]; done) | (rw [if_neg (by omega), if_pos h207, if_pos h188]; done) | (rw [if_neg (by omega), if_pos h207, if_neg h188]; done) | (rw [if_neg (by omega), if_neg h207, if_pos h188]; rfl) | (rw [if_neg (by omega), if_neg h207, if_neg h188]; done) | (exfalso; omega)
            · refine jx_iload dX11_vigil_210 rfl ?_
              refine jx_iload dX11_vigil_212 rfl ?_
              refine jx_idivE (z := nI ((vgS I (fun f => arr I W H len day (I 1072 7) p f tick) tick 4) / 1)) dX11_vigil_214 (nI_ne0 (n := 1) (by omega) (by omega)) (pk_div (a := (vgS I (fun f => arr I W H len day (I 1072 7) p f tick) tick 4)) (d := 1) (by omega) (by omega) (by omega)) ?_
              refine jx_goto 232 dX11_vigil_215 (by decide) ?_
              refine jx_iret dX11_vigil_232 rfl ?_
              refine ⟨_, rfl, ?_, _, rfl, he⟩
              unfold vgV
              first | (rw [if_pos h155, if_pos h169]; done) | (rw [if_pos h155, if_neg h169]; done) | (rw [if_neg (by omega), if_pos h207, if_pos h188]; done) | (rw [if_neg (by omega), if_pos h207, if_neg h188]; done) | (rw [if_neg (by omega), if_neg h207, if_pos h188]; rfl) | (rw [if_neg (by omega), if_neg h207, if_neg h188]; done) | (exfalso; omega)
        · refine jx_iload dX11_vigil_158 rfl ?_
          refine jx_iload dX11_vigil_160 rfl ?_
          refine jx_Si (as := [.int _, .int _]) dX11_vigil_162 mlX11_506 okX11_common stX11_common rfl rfl (by decide) (Nat.le_of_ble_eq_true rfl) (tX11_common hW (by omega) (by omega) _) ?_
          refine jx_istore dX11_vigil_165 (by decide) ?_
          refine jx_iload dX11_vigil_167 rfl ?_
          refine jx_ifN_ne (a := k) 180 dX11_vigil_169 (by decide) (by omega) (fun h169 => ?_) (fun h169 => ?_)
          · refine jx_iload dX11_vigil_180 rfl ?_
            refine jx_iload dX11_vigil_182 rfl ?_
            refine jx_idivE (z := nI ((pfx I 4) / (Nat.gcd (pfx I 4) (vgC I (fun f => arr I W H len day (I 1072 7) p f tick) 4)))) dX11_vigil_184 (nI_ne0 (n := (Nat.gcd (pfx I 4) (vgC I (fun f => arr I W H len day (I 1072 7) p f tick) 4))) (by omega) (by omega)) (pk_div (a := (pfx I 4)) (d := (Nat.gcd (pfx I 4) (vgC I (fun f => arr I W H len day (I 1072 7) p f tick) 4))) (by omega) (by omega) (by omega)) ?_
            refine jx_iret dX11_vigil_185 rfl ?_
            refine ⟨_, rfl, ?_, _, rfl, he⟩
            unfold vgV
            first | (rw [if_pos h155, if_pos h169]; done) | (rw [if_pos h155, if_neg h169]; done) | (rw [if_neg (by omega), if_pos h207, if_pos h188]; done) | (rw [if_neg (by omega), if_pos h207, if_neg h188]; done) | (rw [if_neg (by omega), if_neg h207, if_pos h188]; rfl) | (rw [if_neg (by omega), if_neg h207, if_neg h188]; done) | (exfalso; omega)
          · refine jx_iload dX11_vigil_172 rfl ?_
            refine jx_iload dX11_vigil_174 rfl ?_
            refine jx_idivE (z := nI ((vgC I (fun f => arr I W H len day (I 1072 7) p f tick) 4) / (Nat.gcd (pfx I 4) (vgC I (fun f => arr I W H len day (I 1072 7) p f tick) 4)))) dX11_vigil_176 (nI_ne0 (n := (Nat.gcd (pfx I 4) (vgC I (fun f => arr I W H len day (I 1072 7) p f tick) 4))) (by omega) (by omega)) (pk_div (a := (vgC I (fun f => arr I W H len day (I 1072 7) p f tick) 4)) (d := (Nat.gcd (pfx I 4) (vgC I (fun f => arr I W H len day (I 1072 7) p f tick) 4))) (by omega) (by omega) (by omega)) ?_
            refine jx_goto 185 dX11_vigil_177 (by decide) ?_
            refine jx_iret dX11_vigil_185 rfl ?_
            refine ⟨_, rfl, ?_, _, rfl, he⟩
            unfold vgV
            first | (rw [if_pos h155, if_pos h169]; done) | (rw [if_pos h155, if_neg h169]; done) | (rw [if_neg (by omega), if_pos h207, if_pos h188]; done) | (rw [if_neg (by omega), if_pos h207, if_neg h188]; done) | (rw [if_neg (by omega), if_neg h207, if_pos h188]; rfl) | (rw [if_neg (by omega), if_neg h207, if_neg h188]; done) | (exfalso; omega)
      · refine jx_iload dX11_vigil_64 rfl ?_
        refine jx_aload_n dX11_vigil_66 rfl ?_
        refine jx_getR dX11_vigil_67 flX11_34 rfl rfl (hR _ _ _ rfl) ?_
        refine jx_bipush (v := 12) dX11_vigil_70 (by decide) ?_
        refine jx_iload dX11_vigil_72 rfl ?_
        refine jx_iaddE (z := nI (12 + f)) dX11_vigil_74 (nI_add 12 f) ?_
        refine jx_ialdE (12 + f) dX11_vigil_75 rfl (rfl) (by omega) (by omega) ((congrFun (hkp 1072 (by omega) (by omega)) (12 + f)).trans (hfw f h61).1) ?_
        refine jx_iaddE (z := nI ((pfx I f) + (wf I f))) dX11_vigil_76 (nI_add (pfx I f) (wf I f)) ?_
        refine jx_istore dX11_vigil_77 (by decide) ?_
        refine jx_aload_n dX11_vigil_79 rfl ?_
        refine jx_iload_n dX11_vigil_80 rfl ?_
        refine jx_iload_n dX11_vigil_81 rfl ?_
        refine jx_aload_n dX11_vigil_82 rfl ?_
        refine jx_getR dX11_vigil_83 flX11_34 rfl rfl (hR _ _ _ rfl) ?_
        refine jx_bipush (v := 7) dX11_vigil_86 (by decide) ?_
        refine jx_ialdE (7) dX11_vigil_88 rfl (rfl) (by omega) (by omega) (congrFun (hkp 1072 (by omega) (by omega)) 7) ?_
        refine jx_iload dX11_vigil_89 rfl ?_
        refine jx_VRv (as := [.int _, .int _, .int _, .int _]) dX11_vigil_91 mlX11_451 okX11_tellParty viX11_tellParty rfl rfl rfl rfl rfl (by decide) (Nat.le_of_ble_eq_true rfl) (tX11_tellParty (fog := f) hW hR hJ hp hd (by omega) _) (fun t91 hq91 => ?_)
        obtain ⟨J2, rfl, he2, hts⟩ := hq91
        have hkp2 := kp_t hkp (eqs_kp he2)
        have half := hal f
        have hwf9 : wf I f ≤ 9 := (hfw f h61).2
        refine jx_aload_n dX11_vigil_94 rfl ?_
        refine jx_iload_n dX11_vigil_95 rfl ?_
        refine jx_iload_n dX11_vigil_96 rfl ?_
        refine jx_Vi (as := [.int _, .int _]) dX11_vigil_97 mlX11_454 okX11_arrives viX11_arrives rfl rfl rfl rfl rfl (by decide) (Nat.le_of_ble_eq_true rfl) (tX11_arrivesP hW hR hJ he2 hts hp ht) ?_
        rw [arr_kp hkp]
        refine jx_istore dX11_vigil_100 (by decide) ?_
        refine jx_iload dX11_vigil_102 rfl ?_
        refine jx_iconst (v := -1) dX11_vigil_104 (by decide) ?_
        refine jx_icmp_ne 111 dX11_vigil_105 (by decide) (fun h105 => ?_) (fun h105 => ?_)
        · have hv : ¬ arr I W H len day (I 1072 7) p f tick = 1000 := fun q => h105 ((aI_m (by omega)).mpr q)
          have hvg : tick ≤ arr I W H len day (I 1072 7) p f tick := sn_ge (pc_le hI hp (by omega)).1 _ _ _ ht rfl
          have kk := ih h61 J2 (eqs_t he he2)
          rw [show vgC I (fun f => arr I W H len day (I 1072 7) p f tick) (f + 1) = vgC I (fun f => arr I W H len day (I 1072 7) p f tick) f + wf I f from if_neg hv, show vgS I (fun f => arr I W H len day (I 1072 7) p f tick) tick (f + 1) = vgS I (fun f => arr I W H len day (I 1072 7) p f tick) tick f + wf I f * (arr I W H len day (I 1072 7) p f tick - tick) from if_neg hv] at kk
          rw [aI_v hv]
          refine jx_iload dX11_vigil_111 rfl ?_
          refine jx_aload_n dX11_vigil_113 rfl ?_
          refine jx_getR dX11_vigil_114 flX11_34 rfl rfl (hR _ _ _ rfl) ?_
          refine jx_bipush (v := 12) dX11_vigil_117 (by decide) ?_
          refine jx_iload dX11_vigil_119 rfl ?_
          refine jx_iaddE (z := nI (12 + f)) dX11_vigil_121 (nI_add 12 f) ?_
          refine jx_ialdE (12 + f) dX11_vigil_122 rfl (rfl) (by omega) (by omega) ((congrFun (hkp2 1072 (by omega) (by omega)) (12 + f)).trans (hfw f h61).1) ?_
          refine jx_iaddE (z := nI ((vgC I (fun f => arr I W H len day (I 1072 7) p f tick) f) + (wf I f))) dX11_vigil_123 (nI_add (vgC I (fun f => arr I W H len day (I 1072 7) p f tick) f) (wf I f)) ?_
          refine jx_istore dX11_vigil_124 (by decide) ?_
          refine jx_iload dX11_vigil_126 rfl ?_
          refine jx_aload_n dX11_vigil_128 rfl ?_
          refine jx_getR dX11_vigil_129 flX11_34 rfl rfl (hR _ _ _ rfl) ?_
          refine jx_bipush (v := 12) dX11_vigil_132 (by decide) ?_
          refine jx_iload dX11_vigil_134 rfl ?_
          refine jx_iaddE (z := nI (12 + f)) dX11_vigil_136 (nI_add 12 f) ?_
          refine jx_ialdE (12 + f) dX11_vigil_137 rfl (rfl) (by omega) (by omega) ((congrFun (hkp2 1072 (by omega) (by omega)) (12 + f)).trans (hfw f h61).1) ?_
          refine jx_iload dX11_vigil_138 rfl ?_
          refine jx_iload_n dX11_vigil_140 rfl ?_
          refine jx_isubE (z := nI ((arr I W H len day (I 1072 7) p f tick) - tick)) dX11_vigil_141 (pk_sub (a := (arr I W H len day (I 1072 7) p f tick)) (b := tick) (by omega)) ?_
          refine jx_imulE (z := nI ((wf I f) * ((arr I W H len day (I 1072 7) p f tick) - tick))) dX11_vigil_142 (pk_mul (wf I f) ((arr I W H len day (I 1072 7) p f tick) - tick)) ?_
          refine jx_iaddE (z := nI ((vgS I (fun f => arr I W H len day (I 1072 7) p f tick) tick f) + ((wf I f) * ((arr I W H len day (I 1072 7) p f tick) - tick)))) dX11_vigil_143 (nI_add (vgS I (fun f => arr I W H len day (I 1072 7) p f tick) tick f) ((wf I f) * ((arr I W H len day (I 1072 7) p f tick) - tick))) ?_
          refine jx_istore dX11_vigil_144 (by decide) ?_
          refine jx_iinc dX11_vigil_146 rfl (v := nI (f + 1)) (nI_1 _) (by decide) ?_
          refine jx_goto 58 dX11_vigil_149 (by decide) ?_
          exact jx_ls (by exact ⟨rfl, rfl, rfl, rfl, rfl, rfl, rfl, rfl, rfl, trivial⟩) kk
        · have hv := (aI_m (by omega)).mp h105
          have kk := ih h61 J2 (eqs_t he he2)
          rw [show vgC I (fun f => arr I W H len day (I 1072 7) p f tick) (f + 1) = vgC I (fun f => arr I W H len day (I 1072 7) p f tick) f from if_pos hv, show vgS I (fun f => arr I W H len day (I 1072 7) p f tick) tick (f + 1) = vgS I (fun f => arr I W H len day (I 1072 7) p f tick) tick f from if_pos hv] at kk
          refine jx_goto 146 dX11_vigil_108 (by decide) ?_
          refine jx_iinc dX11_vigil_146 rfl (v := nI (f + 1)) (nI_1 _) (by decide) ?_
          refine jx_goto 58 dX11_vigil_149 (by decide) ?_
          exact jx_ls (by exact ⟨rfl, rfl, rfl, rfl, rfl, rfl, rfl, rfl, rfl, trivial⟩) kk
    exact jx_ls (by exact ⟨rfl, rfl, rfl, rfl, rfl, rfl, rfl, rfl, rfl, trivial⟩) (key 0 (by omega) _ (eqs_r _))
  · exfalso
    have h3 := of_decide_eq_false h37
    rw [nI_toInt (by omega)] at h3
    omega
set_option maxHeartbeats 1000000 in
set_option maxRecDepth 20000 in
theorem tX11_canBy (hW : jWok w l) (hR : RS R) {W H np len p day kind tick : Nat} {wind : Int32} (hI : RI I W H np len) (hp : p < np) (hk : kind ≤ 3) (ht : tick < 96) (hkp : kp I J) (htd : TD I J W H len day wind) : jRi w l mX11_canBy 5 [.ref 1069, .int (nI p), .int (nI kind), .int (nI tick)] (n, shE, J, L, R) (fun r t => r = jb (decide (¬ sn W H (paceOf kind (cN (I 1077 p)) 0) (mK I W H len day wind kind (cN (I 1078 p))) (W * cN (I 1079 p)) tick = 1000)) ∧ ∃ K, t = (n, shE, K, L, R) ∧ eqS J K) := by
  refine jRi_of hW (by decide) rfl (Nat.le_of_ble_eq_true rfl) ?_
  have hJ := hI.kp hkp
  have hT := hI.1.1
  have hz := hT.wh
  have hw3 := hT.2.2.1
  have hw9 := hT.2.2.2.1
  have hh1 := hT.2.2.2.2.1
  have hh7 := hT.2.2.2.2.2
  have hnp := hI.2.2.2.2.1.2
  obtain ⟨hk1, hk2, hk3, hk4, hk5, hk6⟩ := hI.2.2.2.2.2.1 p hp
  have hwr : W * cN (I 1079 p) < W * H := Nat.mul_lt_mul_of_pos_left hk4.2 (by omega)
  refine jx_aload_n dX11_canBy_0 rfl ?_
  refine jx_iload_n dX11_canBy_1 rfl ?_
  refine jx_aload_n dX11_canBy_2 rfl ?_
  refine jx_getR dX11_canBy_3 flX11_50 rfl rfl (hR _ _ _ rfl) ?_
  refine jx_iload_n dX11_canBy_6 rfl ?_
  refine jx_ialdE (p) dX11_canBy_7 rfl (rfl) (by omega) (by omega) ((congrFun (hkp 1077 (by omega) (by omega)) p).trans hk2.1) ?_
  refine jx_aload_n dX11_canBy_8 rfl ?_
  refine jx_getR dX11_canBy_9 flX11_53 rfl rfl (hR _ _ _ rfl) ?_
  refine jx_iload_n dX11_canBy_12 rfl ?_
  refine jx_ialdE (p) dX11_canBy_13 rfl (rfl) (by omega) (by omega) ((congrFun (hkp 1078 (by omega) (by omega)) p).trans hk3.1) ?_
  refine jx_iconst (v := 0) dX11_canBy_14 (by decide) ?_
  refine jx_VRv (as := [.int _, .int _, .int _, .int _]) dX11_canBy_15 mlX11_420 okX11_tellSoon viX11_tellSoon rfl rfl rfl rfl rfl (by decide) (Nat.le_of_ble_eq_true rfl) (tX11_tellSoon (fog := 0) hW hR hJ.1.1 (hg := hgt I) (wh := wht I) (q := qq I W H day) (lev := fun t => wlev (I 1082) len day t wind) hk hk2.2 hk3.2 (by omega) rfl (fun c hc => ⟨by rw [hkp 1074 (by omega) (by omega)]; exact (hI.2.1 c hc).2.1, (hI.2.1 c hc).2.2⟩) (fun c hc => ⟨by rw [hkp 1073 (by omega) (by omega)]; exact (hI.2.1 c hc).1.1, (hI.2.1 c hc).1.2⟩) (fun t ht => ⟨htd.1 t ht, wlev_le _ _ _ _ _⟩) htd.2) (fun t15 hq15 => ?_)
  obtain ⟨K, rfl, heS, hts⟩ := hq15
  have hkp2 := kp_t hkp (eqs_kp (eqS_s heS))
  have hK := hI.kp hkp2
  refine jx_aload_n dX11_canBy_18 rfl ?_
  refine jx_iload_n dX11_canBy_19 rfl ?_
  refine jx_iload_n dX11_canBy_20 rfl ?_
  refine jx_Vi (as := [.int _, .int _]) dX11_canBy_21 mlX11_454 okX11_arrives viX11_arrives rfl rfl rfl rfl rfl (by decide) (Nat.le_of_ble_eq_true rfl) (tX11_arrives hW hR hK.1.1 (by omega) ((congrFun (hkp2 1079 (by omega) (by omega)) p).trans hk4.1) hk4.2 ht (hts.2.2 _ _ hwr ht) (sn_le _ _)) ?_
  have hsl := sn_le (W := W) (H := H) (pace := paceOf kind (cN (I 1077 p)) 0) (m := mK I W H len day wind kind (cN (I 1078 p))) (W * cN (I 1079 p)) tick
  refine jx_iconst (v := -1) dX11_canBy_24 (by decide) ?_
  refine jx_icmp_eq 32 dX11_canBy_25 (by decide) (fun h25 => ?_) (fun h25 => ?_)
  · refine jx_iconst (v := 0) dX11_canBy_32 (by decide) ?_
    refine jx_zret dX11_canBy_33 rfl ?_ ?_
    · first | exact Or.inl rfl | exact Or.inr rfl | exact jb_or _
    refine ⟨_, rfl, ?_, _, rfl, heS⟩
    first
    | (have hz : sn W H (paceOf kind (cN (I 1077 p)) 0) (mK I W H len day wind kind (cN (I 1078 p))) (W * cN (I 1079 p)) tick = 1000 := (aI_m (Nat.lt_of_le_of_lt hsl (by decide))).mp h25
       rw [decide_eq_false (fun z => z hz)]; rfl)
    | (have hz : ¬ sn W H (paceOf kind (cN (I 1077 p)) 0) (mK I W H len day wind kind (cN (I 1078 p))) (W * cN (I 1079 p)) tick = 1000 := fun z => h25 ((aI_m (Nat.lt_of_le_of_lt hsl (by decide))).mpr z)
       rw [decide_eq_true hz]; rfl)
  · refine jx_iconst (v := 1) dX11_canBy_28 (by decide) ?_
    refine jx_goto 33 dX11_canBy_29 (by decide) ?_
    refine jx_zret dX11_canBy_33 rfl ?_ ?_
    · first | exact Or.inl rfl | exact Or.inr rfl | exact jb_or _
    refine ⟨_, rfl, ?_, _, rfl, heS⟩
    first
    | (have hz : sn W H (paceOf kind (cN (I 1077 p)) 0) (mK I W H len day wind kind (cN (I 1078 p))) (W * cN (I 1079 p)) tick = 1000 := (aI_m (Nat.lt_of_le_of_lt hsl (by decide))).mp h25
       rw [decide_eq_false (fun z => z hz)]; rfl)
    | (have hz : ¬ sn W H (paceOf kind (cN (I 1077 p)) 0) (mK I W H len day wind kind (cN (I 1078 p))) (W * cN (I 1079 p)) tick = 1000 := fun z => h25 ((aI_m (Nat.lt_of_le_of_lt hsl (by decide))).mpr z)
       rw [decide_eq_true hz]; rfl)
set_option maxHeartbeats 1000000 in
set_option maxRecDepth 20000 in
theorem tX11_gainH (hW : jWok w l) (hR : RS R) {np h s : Nat} (hnp : J 1072 10 = nI np) (hn6 : np ≤ 6) {bh bs : Nat → Bool} (hbh : ∀ p, p < np → J 1107 p = jb (bh p)) (hbs : ∀ p, p < np → J 1108 p = jb (bs p)) (hh : h ≤ 9) (hs : s ≤ 9) : jCD w l mX11_gain 1 [.ref 1069, .int (jb true), .int (nI h), .int (nI s)] (n, shE, J, L, R) (some (.int (nI (gH bh bs np h s)))) (n, shE, J, L, R) := by
  refine jCD_of hW (by decide) rfl (Nat.le_of_ble_eq_true rfl) ?_
  have key : ∀ k, k ≤ np → jWP w l mX11_gain 1 0 0 (fun r t => r = some (.int (nI (gH bh bs np h s))) ∧ t = (n, shE, J, L, R)) (fun _ _ => False) 6 [(0, .ref 1069), (1, .int (jb true)), (2, .int (nI h)), (3, .int (nI s)), (4, .int (nI (h * cntN (tkH bh bs h s) k))), (5, .int (nI k))] [] (n, shE, J, L, R) := by
    refine jdown _ (fun k hk ih => ?_)
    refine jx_iload dX11_gain_6 rfl ?_
    refine jx_aload_n dX11_gain_8 rfl ?_
    refine jx_getR dX11_gain_9 flX11_34 rfl rfl (hR _ _ _ rfl) ?_
    refine jx_bipush (v := 10) dX11_gain_12 (by decide) ?_
    refine jx_ialdE (10) dX11_gain_14 rfl (rfl) (by omega) (by omega) (hnp) ?_
    refine jx_icmpN_ge (a := k) (b := np) 96 dX11_gain_15 (by decide) (by omega) (by omega) (fun h15 => ?_) (fun h15 => ?_)
    · refine jx_iload dX11_gain_96 rfl ?_
      refine jx_iret dX11_gain_98 rfl ?_
      have hkn : k = np := by omega
      subst hkn
      exact ⟨rfl, rfl⟩
    · refine jx_aload_n dX11_gain_18 rfl ?_
      refine jx_getR dX11_gain_19 flX11_148 rfl rfl (hR _ _ _ rfl) ?_
      refine jx_iload dX11_gain_22 rfl ?_
      refine jx_zaldE (k) dX11_gain_24 rfl (rfl) (by omega) (by omega) (hbh k h15) ?_
      refine jx_ifB_eq 47 dX11_gain_25 (by decide) (fun h25 => ?_) (fun h25 => ?_)
      · refine jx_iconst (v := 0) dX11_gain_47 (by decide) ?_
        refine jx_istore dX11_gain_48 (by decide) ?_
        refine jx_iload_n dX11_gain_50 rfl ?_
        refine jx_ifB_eq 65 dX11_gain_51 (by decide) (fun h51 => by cases h51) (fun h51 => ?_)
        refine jx_iload dX11_gain_54 rfl ?_
        refine jx_ifN_eq (a := 0) 65 dX11_gain_56 (by decide) (by decide) (fun h56 => ?_) (fun h56 => absurd h56 (by decide))
        refine jx_iload_n dX11_gain_65 rfl ?_
        refine jx_ifB_ne 90 dX11_gain_66 (by decide) (fun h66 => ?_) (fun h66 => by cases h66)
        refine jx_iinc dX11_gain_90 rfl (v := nI (k + 1)) (nI_1 _) (by decide) ?_
        refine jx_goto 6 dX11_gain_93 (by decide) ?_
        have hg : (tkH bh bs h s) k = false := by
          first | (simp only [tkH, h25, h35]; simp; omega) | (simp only [tkH, h25, h35]; simp; done) | (simp only [tkH, h25, h76]; simp; done) | (simp only [tkH, h25]; simp; done) | (simp only [tkH, h25, h35, h76]; simp; omega) | (simp only [tkH, h25, h35, h76]; simp; done)
        have kk := ih h15
        rw [show cntN (tkH bh bs h s) (k + 1) = cntN (tkH bh bs h s) k from by
          show cntN (tkH bh bs h s) k + (if (tkH bh bs h s) k = true then 1 else 0) = _
          rw [hg]; rfl] at kk
        exact jx_ls (by exact ⟨rfl, rfl, rfl, rfl, rfl, rfl, trivial⟩) kk
      · refine jx_aload_n dX11_gain_28 rfl ?_
        refine jx_getR dX11_gain_29 flX11_151 rfl rfl (hR _ _ _ rfl) ?_
        refine jx_iload dX11_gain_32 rfl ?_
        refine jx_zaldE (k) dX11_gain_34 rfl (rfl) (by omega) (by omega) (hbs k h15) ?_
        refine jx_ifB_eq 43 dX11_gain_35 (by decide) (fun h35 => ?_) (fun h35 => ?_)
        · refine jx_iconst (v := 1) dX11_gain_43 (by decide) ?_
          refine jx_goto 48 dX11_gain_44 (by decide) ?_
          refine jx_istore dX11_gain_48 (by decide) ?_
          refine jx_iload_n dX11_gain_50 rfl ?_
          refine jx_ifB_eq 65 dX11_gain_51 (by decide) (fun h51 => by cases h51) (fun h51 => ?_)
          refine jx_iload dX11_gain_54 rfl ?_
          refine jx_ifN_eq (a := 1) 65 dX11_gain_56 (by decide) (by decide) (fun h56 => absurd h56 (by decide)) (fun h56 => ?_)
          refine jx_iload dX11_gain_59 rfl ?_
          refine jx_iload_n dX11_gain_61 rfl ?_
          refine jx_iaddE (z := nI ((h * cntN (tkH bh bs h s) k) + h)) dX11_gain_62 (nI_add (h * cntN (tkH bh bs h s) k) h) ?_
          refine jx_istore dX11_gain_63 (by decide) ?_
          refine jx_iload_n dX11_gain_65 rfl ?_
          refine jx_ifB_ne 90 dX11_gain_66 (by decide) (fun h66 => ?_) (fun h66 => by cases h66)
          refine jx_iinc dX11_gain_90 rfl (v := nI (k + 1)) (nI_1 _) (by decide) ?_
          refine jx_goto 6 dX11_gain_93 (by decide) ?_
          have hg : (tkH bh bs h s) k = true := by
            first | (simp only [tkH, h25, h35]; simp; omega) | (simp only [tkH, h25, h35]; simp; done) | (simp only [tkH, h25, h76]; simp; done) | (simp only [tkH, h25]; simp; done) | (simp only [tkH, h25, h35, h76]; simp; omega) | (simp only [tkH, h25, h35, h76]; simp; done)
          have kk := ih h15
          rw [show cntN (tkH bh bs h s) (k + 1) = cntN (tkH bh bs h s) k + 1 from by
            show cntN (tkH bh bs h s) k + (if (tkH bh bs h s) k = true then 1 else 0) = _
            rw [hg]; rfl] at kk
          rw [Nat.mul_add, Nat.mul_one] at kk
          exact jx_ls (by exact ⟨rfl, rfl, rfl, rfl, rfl, rfl, trivial⟩) kk
        · refine jx_iload_n dX11_gain_38 rfl ?_
          refine jx_iload_n dX11_gain_39 rfl ?_
          refine jx_icmpN_gt (a := h) (b := s) 47 dX11_gain_40 (by decide) (by omega) (by omega) (fun h40 => ?_) (fun h40 => ?_)
          · refine jx_iconst (v := 0) dX11_gain_47 (by decide) ?_
            refine jx_istore dX11_gain_48 (by decide) ?_
            refine jx_iload_n dX11_gain_50 rfl ?_
            refine jx_ifB_eq 65 dX11_gain_51 (by decide) (fun h51 => by cases h51) (fun h51 => ?_)
            refine jx_iload dX11_gain_54 rfl ?_
            refine jx_ifN_eq (a := 0) 65 dX11_gain_56 (by decide) (by decide) (fun h56 => ?_) (fun h56 => absurd h56 (by decide))
            refine jx_iload_n dX11_gain_65 rfl ?_
            refine jx_ifB_ne 90 dX11_gain_66 (by decide) (fun h66 => ?_) (fun h66 => by cases h66)
            refine jx_iinc dX11_gain_90 rfl (v := nI (k + 1)) (nI_1 _) (by decide) ?_
            refine jx_goto 6 dX11_gain_93 (by decide) ?_
            have hg : (tkH bh bs h s) k = false := by
              first | (simp only [tkH, h25, h35]; simp; omega) | (simp only [tkH, h25, h35]; simp; done) | (simp only [tkH, h25, h76]; simp; done) | (simp only [tkH, h25]; simp; done) | (simp only [tkH, h25, h35, h76]; simp; omega) | (simp only [tkH, h25, h35, h76]; simp; done)
            have kk := ih h15
            rw [show cntN (tkH bh bs h s) (k + 1) = cntN (tkH bh bs h s) k from by
              show cntN (tkH bh bs h s) k + (if (tkH bh bs h s) k = true then 1 else 0) = _
              rw [hg]; rfl] at kk
            exact jx_ls (by exact ⟨rfl, rfl, rfl, rfl, rfl, rfl, trivial⟩) kk
          · refine jx_iconst (v := 1) dX11_gain_43 (by decide) ?_
            refine jx_goto 48 dX11_gain_44 (by decide) ?_
            refine jx_istore dX11_gain_48 (by decide) ?_
            refine jx_iload_n dX11_gain_50 rfl ?_
            refine jx_ifB_eq 65 dX11_gain_51 (by decide) (fun h51 => by cases h51) (fun h51 => ?_)
            refine jx_iload dX11_gain_54 rfl ?_
            refine jx_ifN_eq (a := 1) 65 dX11_gain_56 (by decide) (by decide) (fun h56 => absurd h56 (by decide)) (fun h56 => ?_)
            refine jx_iload dX11_gain_59 rfl ?_
            refine jx_iload_n dX11_gain_61 rfl ?_
            refine jx_iaddE (z := nI ((h * cntN (tkH bh bs h s) k) + h)) dX11_gain_62 (nI_add (h * cntN (tkH bh bs h s) k) h) ?_
            refine jx_istore dX11_gain_63 (by decide) ?_
            refine jx_iload_n dX11_gain_65 rfl ?_
            refine jx_ifB_ne 90 dX11_gain_66 (by decide) (fun h66 => ?_) (fun h66 => by cases h66)
            refine jx_iinc dX11_gain_90 rfl (v := nI (k + 1)) (nI_1 _) (by decide) ?_
            refine jx_goto 6 dX11_gain_93 (by decide) ?_
            have hg : (tkH bh bs h s) k = true := by
              first | (simp only [tkH, h25, h35]; simp; omega) | (simp only [tkH, h25, h35]; simp; done) | (simp only [tkH, h25, h76]; simp; done) | (simp only [tkH, h25]; simp; done) | (simp only [tkH, h25, h35, h76]; simp; omega) | (simp only [tkH, h25, h35, h76]; simp; done)
            have kk := ih h15
            rw [show cntN (tkH bh bs h s) (k + 1) = cntN (tkH bh bs h s) k + 1 from by
              show cntN (tkH bh bs h s) k + (if (tkH bh bs h s) k = true then 1 else 0) = _
              rw [hg]; rfl] at kk
            rw [Nat.mul_add, Nat.mul_one] at kk
            exact jx_ls (by exact ⟨rfl, rfl, rfl, rfl, rfl, rfl, trivial⟩) kk
  refine jx_iconst (v := 0) dX11_gain_0 (by decide) ?_
  refine jx_istore dX11_gain_1 (by decide) ?_
  refine jx_iconst (v := 0) dX11_gain_3 (by decide) ?_
  refine jx_istore dX11_gain_4 (by decide) ?_
  exact jx_ls (by exact ⟨rfl, rfl, rfl, rfl, rfl, rfl, trivial⟩) (key 0 (by omega))
set_option maxHeartbeats 1000000 in
set_option maxRecDepth 20000 in
theorem tX11_gainS (hW : jWok w l) (hR : RS R) {np h s : Nat} (hnp : J 1072 10 = nI np) (hn6 : np ≤ 6) {bh bs : Nat → Bool} (hbh : ∀ p, p < np → J 1107 p = jb (bh p)) (hbs : ∀ p, p < np → J 1108 p = jb (bs p)) (hh : h ≤ 9) (hs : s ≤ 9) : jCD w l mX11_gain 1 [.ref 1069, .int (jb false), .int (nI h), .int (nI s)] (n, shE, J, L, R) (some (.int (nI (gS bh bs np h s)))) (n, shE, J, L, R) := by
  refine jCD_of hW (by decide) rfl (Nat.le_of_ble_eq_true rfl) ?_
  have key : ∀ k, k ≤ np → jWP w l mX11_gain 1 0 0 (fun r t => r = some (.int (nI (gS bh bs np h s))) ∧ t = (n, shE, J, L, R)) (fun _ _ => False) 6 [(0, .ref 1069), (1, .int (jb false)), (2, .int (nI h)), (3, .int (nI s)), (4, .int (nI (s * cntN ((fun p => bs p && !(tkH bh bs h s p))) k))), (5, .int (nI k))] [] (n, shE, J, L, R) := by
    refine jdown _ (fun k hk ih => ?_)
    refine jx_iload dX11_gain_6 rfl ?_
    refine jx_aload_n dX11_gain_8 rfl ?_
    refine jx_getR dX11_gain_9 flX11_34 rfl rfl (hR _ _ _ rfl) ?_
    refine jx_bipush (v := 10) dX11_gain_12 (by decide) ?_
    refine jx_ialdE (10) dX11_gain_14 rfl (rfl) (by omega) (by omega) (hnp) ?_
    refine jx_icmpN_ge (a := k) (b := np) 96 dX11_gain_15 (by decide) (by omega) (by omega) (fun h15 => ?_) (fun h15 => ?_)
    · refine jx_iload dX11_gain_96 rfl ?_
      refine jx_iret dX11_gain_98 rfl ?_
      have hkn : k = np := by omega
      subst hkn
      exact ⟨rfl, rfl⟩
    · refine jx_aload_n dX11_gain_18 rfl ?_
      refine jx_getR dX11_gain_19 flX11_148 rfl rfl (hR _ _ _ rfl) ?_
      refine jx_iload dX11_gain_22 rfl ?_
      refine jx_zaldE (k) dX11_gain_24 rfl (rfl) (by omega) (by omega) (hbh k h15) ?_
      refine jx_ifB_eq 47 dX11_gain_25 (by decide) (fun h25 => ?_) (fun h25 => ?_)
      · refine jx_iconst (v := 0) dX11_gain_47 (by decide) ?_
        refine jx_istore dX11_gain_48 (by decide) ?_
        refine jx_iload_n dX11_gain_50 rfl ?_
        refine jx_ifB_eq 65 dX11_gain_51 (by decide) (fun h51 => ?_) (fun h51 => by cases h51)
        refine jx_iload_n dX11_gain_65 rfl ?_
        refine jx_ifB_ne 90 dX11_gain_66 (by decide) (fun h66 => by cases h66) (fun h66 => ?_)
        refine jx_aload_n dX11_gain_69 rfl ?_
        refine jx_getR dX11_gain_70 flX11_151 rfl rfl (hR _ _ _ rfl) ?_
        refine jx_iload dX11_gain_73 rfl ?_
        refine jx_zaldE (k) dX11_gain_75 rfl (rfl) (by omega) (by omega) (hbs k h15) ?_
        refine jx_ifB_eq 90 dX11_gain_76 (by decide) (fun h76 => ?_) (fun h76 => ?_)
        · refine jx_iinc dX11_gain_90 rfl (v := nI (k + 1)) (nI_1 _) (by decide) ?_
          refine jx_goto 6 dX11_gain_93 (by decide) ?_
          have hg : ((fun p => bs p && !(tkH bh bs h s p))) k = false := by
            first | (simp only [tkH, h25, h35]; simp; omega) | (simp only [tkH, h25, h35]; simp; done) | (simp only [tkH, h25, h76]; simp; done) | (simp only [tkH, h25]; simp; done) | (simp only [tkH, h25, h35, h76]; simp; omega) | (simp only [tkH, h25, h35, h76]; simp; done)
          have kk := ih h15
          rw [show cntN ((fun p => bs p && !(tkH bh bs h s p))) (k + 1) = cntN ((fun p => bs p && !(tkH bh bs h s p))) k from by
            show cntN ((fun p => bs p && !(tkH bh bs h s p))) k + (if ((fun p => bs p && !(tkH bh bs h s p))) k = true then 1 else 0) = _
            rw [hg]; rfl] at kk
          exact jx_ls (by exact ⟨rfl, rfl, rfl, rfl, rfl, rfl, trivial⟩) kk
        · refine jx_iload dX11_gain_79 rfl ?_
          refine jx_ifN_ne (a := 0) 90 dX11_gain_81 (by decide) (by decide) (fun h81 => absurd h81 (by decide)) (fun h81 => ?_)
          refine jx_iload dX11_gain_84 rfl ?_
          refine jx_iload_n dX11_gain_86 rfl ?_
          refine jx_iaddE (z := nI ((s * cntN ((fun p => bs p && !(tkH bh bs h s p))) k) + s)) dX11_gain_87 (nI_add (s * cntN ((fun p => bs p && !(tkH bh bs h s p))) k) s) ?_
          refine jx_istore dX11_gain_88 (by decide) ?_
          refine jx_iinc dX11_gain_90 rfl (v := nI (k + 1)) (nI_1 _) (by decide) ?_
          refine jx_goto 6 dX11_gain_93 (by decide) ?_
          have hg : ((fun p => bs p && !(tkH bh bs h s p))) k = true := by
            first | (simp only [tkH, h25, h35]; simp; omega) | (simp only [tkH, h25, h35]; simp; done) | (simp only [tkH, h25, h76]; simp; done) | (simp only [tkH, h25]; simp; done) | (simp only [tkH, h25, h35, h76]; simp; omega) | (simp only [tkH, h25, h35, h76]; simp; done)
          have kk := ih h15
          rw [show cntN ((fun p => bs p && !(tkH bh bs h s p))) (k + 1) = cntN ((fun p => bs p && !(tkH bh bs h s p))) k + 1 from by
            show cntN ((fun p => bs p && !(tkH bh bs h s p))) k + (if ((fun p => bs p && !(tkH bh bs h s p))) k = true then 1 else 0) = _
            rw [hg]; rfl] at kk
          rw [Nat.mul_add, Nat.mul_one] at kk
          exact jx_ls (by exact ⟨rfl, rfl, rfl, rfl, rfl, rfl, trivial⟩) kk
      · refine jx_aload_n dX11_gain_28 rfl ?_
        refine jx_getR dX11_gain_29 flX11_151 rfl rfl (hR _ _ _ rfl) ?_
        refine jx_iload dX11_gain_32 rfl ?_
        refine jx_zaldE (k) dX11_gain_34 rfl (rfl) (by omega) (by omega) (hbs k h15) ?_
        refine jx_ifB_eq 43 dX11_gain_35 (by decide) (fun h35 => ?_) (fun h35 => ?_)
        · refine jx_iconst (v := 1) dX11_gain_43 (by decide) ?_
          refine jx_goto 48 dX11_gain_44 (by decide) ?_
          refine jx_istore dX11_gain_48 (by decide) ?_
          refine jx_iload_n dX11_gain_50 rfl ?_
          refine jx_ifB_eq 65 dX11_gain_51 (by decide) (fun h51 => ?_) (fun h51 => by cases h51)
          refine jx_iload_n dX11_gain_65 rfl ?_
          refine jx_ifB_ne 90 dX11_gain_66 (by decide) (fun h66 => by cases h66) (fun h66 => ?_)
          refine jx_aload_n dX11_gain_69 rfl ?_
          refine jx_getR dX11_gain_70 flX11_151 rfl rfl (hR _ _ _ rfl) ?_
          refine jx_iload dX11_gain_73 rfl ?_
          refine jx_zaldE (k) dX11_gain_75 rfl (rfl) (by omega) (by omega) (hbs k h15) ?_
          refine jx_ifB_eq 90 dX11_gain_76 (by decide) (fun h76 => ?_) (fun h76 => ?_)
          · refine jx_iinc dX11_gain_90 rfl (v := nI (k + 1)) (nI_1 _) (by decide) ?_
            refine jx_goto 6 dX11_gain_93 (by decide) ?_
            have hg : ((fun p => bs p && !(tkH bh bs h s p))) k = false := by
              first | (simp only [tkH, h25, h35]; simp; omega) | (simp only [tkH, h25, h35]; simp; done) | (simp only [tkH, h25, h76]; simp; done) | (simp only [tkH, h25]; simp; done) | (simp only [tkH, h25, h35, h76]; simp; omega) | (simp only [tkH, h25, h35, h76]; simp; done)
            have kk := ih h15
            rw [show cntN ((fun p => bs p && !(tkH bh bs h s p))) (k + 1) = cntN ((fun p => bs p && !(tkH bh bs h s p))) k from by
              show cntN ((fun p => bs p && !(tkH bh bs h s p))) k + (if ((fun p => bs p && !(tkH bh bs h s p))) k = true then 1 else 0) = _
              rw [hg]; rfl] at kk
            exact jx_ls (by exact ⟨rfl, rfl, rfl, rfl, rfl, rfl, trivial⟩) kk
          · refine jx_iload dX11_gain_79 rfl ?_
            refine jx_ifN_ne (a := 1) 90 dX11_gain_81 (by decide) (by decide) (fun h81 => ?_) (fun h81 => absurd h81 (by decide))
            refine jx_iinc dX11_gain_90 rfl (v := nI (k + 1)) (nI_1 _) (by decide) ?_
            refine jx_goto 6 dX11_gain_93 (by decide) ?_
            have hg : ((fun p => bs p && !(tkH bh bs h s p))) k = false := by
              first | (simp only [tkH, h25, h35]; simp; omega) | (simp only [tkH, h25, h35]; simp; done) | (simp only [tkH, h25, h76]; simp; done) | (simp only [tkH, h25]; simp; done) | (simp only [tkH, h25, h35, h76]; simp; omega) | (simp only [tkH, h25, h35, h76]; simp; done)
            have kk := ih h15
            rw [show cntN ((fun p => bs p && !(tkH bh bs h s p))) (k + 1) = cntN ((fun p => bs p && !(tkH bh bs h s p))) k from by
              show cntN ((fun p => bs p && !(tkH bh bs h s p))) k + (if ((fun p => bs p && !(tkH bh bs h s p))) k = true then 1 else 0) = _
              rw [hg]; rfl] at kk
            exact jx_ls (by exact ⟨rfl, rfl, rfl, rfl, rfl, rfl, trivial⟩) kk
        · refine jx_iload_n dX11_gain_38 rfl ?_
          refine jx_iload_n dX11_gain_39 rfl ?_
          refine jx_icmpN_gt (a := h) (b := s) 47 dX11_gain_40 (by decide) (by omega) (by omega) (fun h40 => ?_) (fun h40 => ?_)
          · refine jx_iconst (v := 0) dX11_gain_47 (by decide) ?_
            refine jx_istore dX11_gain_48 (by decide) ?_
            refine jx_iload_n dX11_gain_50 rfl ?_
            refine jx_ifB_eq 65 dX11_gain_51 (by decide) (fun h51 => ?_) (fun h51 => by cases h51)
            refine jx_iload_n dX11_gain_65 rfl ?_
            refine jx_ifB_ne 90 dX11_gain_66 (by decide) (fun h66 => by cases h66) (fun h66 => ?_)
            refine jx_aload_n dX11_gain_69 rfl ?_
            refine jx_getR dX11_gain_70 flX11_151 rfl rfl (hR _ _ _ rfl) ?_
            refine jx_iload dX11_gain_73 rfl ?_
            refine jx_zaldE (k) dX11_gain_75 rfl (rfl) (by omega) (by omega) (hbs k h15) ?_
            refine jx_ifB_eq 90 dX11_gain_76 (by decide) (fun h76 => ?_) (fun h76 => ?_)
            · refine jx_iinc dX11_gain_90 rfl (v := nI (k + 1)) (nI_1 _) (by decide) ?_
              refine jx_goto 6 dX11_gain_93 (by decide) ?_
              have hg : ((fun p => bs p && !(tkH bh bs h s p))) k = false := by
                first | (simp only [tkH, h25, h35]; simp; omega) | (simp only [tkH, h25, h35]; simp; done) | (simp only [tkH, h25, h76]; simp; done) | (simp only [tkH, h25]; simp; done) | (simp only [tkH, h25, h35, h76]; simp; omega) | (simp only [tkH, h25, h35, h76]; simp; done)
              have kk := ih h15
              rw [show cntN ((fun p => bs p && !(tkH bh bs h s p))) (k + 1) = cntN ((fun p => bs p && !(tkH bh bs h s p))) k from by
                show cntN ((fun p => bs p && !(tkH bh bs h s p))) k + (if ((fun p => bs p && !(tkH bh bs h s p))) k = true then 1 else 0) = _
                rw [hg]; rfl] at kk
              exact jx_ls (by exact ⟨rfl, rfl, rfl, rfl, rfl, rfl, trivial⟩) kk
            · refine jx_iload dX11_gain_79 rfl ?_
              refine jx_ifN_ne (a := 0) 90 dX11_gain_81 (by decide) (by decide) (fun h81 => absurd h81 (by decide)) (fun h81 => ?_)
              refine jx_iload dX11_gain_84 rfl ?_
              refine jx_iload_n dX11_gain_86 rfl ?_
              refine jx_iaddE (z := nI ((s * cntN ((fun p => bs p && !(tkH bh bs h s p))) k) + s)) dX11_gain_87 (nI_add (s * cntN ((fun p => bs p && !(tkH bh bs h s p))) k) s) ?_
              refine jx_istore dX11_gain_88 (by decide) ?_
              refine jx_iinc dX11_gain_90 rfl (v := nI (k + 1)) (nI_1 _) (by decide) ?_
              refine jx_goto 6 dX11_gain_93 (by decide) ?_
              have hg : ((fun p => bs p && !(tkH bh bs h s p))) k = true := by
                first | (simp only [tkH, h25, h35]; simp; omega) | (simp only [tkH, h25, h35]; simp; done) | (simp only [tkH, h25, h76]; simp; done) | (simp only [tkH, h25]; simp; done) | (simp only [tkH, h25, h35, h76]; simp; omega) | (simp only [tkH, h25, h35, h76]; simp; done)
              have kk := ih h15
              rw [show cntN ((fun p => bs p && !(tkH bh bs h s p))) (k + 1) = cntN ((fun p => bs p && !(tkH bh bs h s p))) k + 1 from by
                show cntN ((fun p => bs p && !(tkH bh bs h s p))) k + (if ((fun p => bs p && !(tkH bh bs h s p))) k = true then 1 else 0) = _
                rw [hg]; rfl] at kk
              rw [Nat.mul_add, Nat.mul_one] at kk
              exact jx_ls (by exact ⟨rfl, rfl, rfl, rfl, rfl, rfl, trivial⟩) kk
          · refine jx_iconst (v := 1) dX11_gain_43 (by decide) ?_
            refine jx_goto 48 dX11_gain_44 (by decide) ?_
            refine jx_istore dX11_gain_48 (by decide) ?_
            refine jx_iload_n dX11_gain_50 rfl ?_
            refine jx_ifB_eq 65 dX11_gain_51 (by decide) (fun h51 => ?_) (fun h51 => by cases h51)
            refine jx_iload_n dX11_gain_65 rfl ?_
            refine jx_ifB_ne 90 dX11_gain_66 (by decide) (fun h66 => by cases h66) (fun h66 => ?_)
            refine jx_aload_n dX11_gain_69 rfl ?_
            refine jx_getR dX11_gain_70 flX11_151 rfl rfl (hR _ _ _ rfl) ?_
            refine jx_iload dX11_gain_73 rfl ?_
            refine jx_zaldE (k) dX11_gain_75 rfl (rfl) (by omega) (by omega) (hbs k h15) ?_
            refine jx_ifB_eq 90 dX11_gain_76 (by decide) (fun h76 => ?_) (fun h76 => ?_)
            · refine jx_iinc dX11_gain_90 rfl (v := nI (k + 1)) (nI_1 _) (by decide) ?_
              refine jx_goto 6 dX11_gain_93 (by decide) ?_
              have hg : ((fun p => bs p && !(tkH bh bs h s p))) k = false := by
                first | (simp only [tkH, h25, h35]; simp; omega) | (simp only [tkH, h25, h35]; simp; done) | (simp only [tkH, h25, h76]; simp; done) | (simp only [tkH, h25]; simp; done) | (simp only [tkH, h25, h35, h76]; simp; omega) | (simp only [tkH, h25, h35, h76]; simp; done)
              have kk := ih h15
              rw [show cntN ((fun p => bs p && !(tkH bh bs h s p))) (k + 1) = cntN ((fun p => bs p && !(tkH bh bs h s p))) k from by
                show cntN ((fun p => bs p && !(tkH bh bs h s p))) k + (if ((fun p => bs p && !(tkH bh bs h s p))) k = true then 1 else 0) = _
                rw [hg]; rfl] at kk
              exact jx_ls (by exact ⟨rfl, rfl, rfl, rfl, rfl, rfl, trivial⟩) kk
            · refine jx_iload dX11_gain_79 rfl ?_
              refine jx_ifN_ne (a := 1) 90 dX11_gain_81 (by decide) (by decide) (fun h81 => ?_) (fun h81 => absurd h81 (by decide))
              refine jx_iinc dX11_gain_90 rfl (v := nI (k + 1)) (nI_1 _) (by decide) ?_
              refine jx_goto 6 dX11_gain_93 (by decide) ?_
              have hg : ((fun p => bs p && !(tkH bh bs h s p))) k = false := by
                first | (simp only [tkH, h25, h35]; simp; omega) | (simp only [tkH, h25, h35]; simp; done) | (simp only [tkH, h25, h76]; simp; done) | (simp only [tkH, h25]; simp; done) | (simp only [tkH, h25, h35, h76]; simp; omega) | (simp only [tkH, h25, h35, h76]; simp; done)
              have kk := ih h15
              rw [show cntN ((fun p => bs p && !(tkH bh bs h s p))) (k + 1) = cntN ((fun p => bs p && !(tkH bh bs h s p))) k from by
                show cntN ((fun p => bs p && !(tkH bh bs h s p))) k + (if ((fun p => bs p && !(tkH bh bs h s p))) k = true then 1 else 0) = _
                rw [hg]; rfl] at kk
              exact jx_ls (by exact ⟨rfl, rfl, rfl, rfl, rfl, rfl, trivial⟩) kk
  refine jx_iconst (v := 0) dX11_gain_0 (by decide) ?_
  refine jx_istore dX11_gain_1 (by decide) ?_
  refine jx_iconst (v := 0) dX11_gain_3 (by decide) ?_
  refine jx_istore dX11_gain_4 (by decide) ?_
  exact jx_ls (by exact ⟨rfl, rfl, rfl, rfl, rfl, rfl, trivial⟩) (key 0 (by omega))
set_option maxHeartbeats 1000000 in
set_option maxRecDepth 20000 in
theorem tX11_rests (hW : jWok w l) (hR : RS R) {np h s : Nat} (hnp : J 1072 10 = nI np) (hn6 : np ≤ 6) {bh bs : Nat → Bool} (hbh : ∀ p, p < np → J 1107 p = jb (bh p)) (hbs : ∀ p, p < np → J 1108 p = jb (bs p)) (hh : h ≤ 9) (hs : s ≤ 9) : jCD w l mX11_rests 2 [.ref 1069, .int (nI h), .int (nI s)] (n, shE, J, L, R) (some (.int (jb (rst bh bs np h s)))) (n, shE, J, L, R) := by
  refine jCD_of hW (by decide) rfl (Nat.le_of_ble_eq_true rfl) ?_
  have bH : ∀ a b, a ≤ 9 → gH bh bs np a b ≤ 54 := fun a b ha => Nat.le_trans (Nat.mul_le_mul ha (cntN_le _ np)) (by omega)
  have bS : ∀ a b, b ≤ 9 → gS bh bs np a b ≤ 54 := fun a b hb => Nat.le_trans (Nat.mul_le_mul hb (cntN_le _ np)) (by omega)
  have b1 := bH h s hh
  have b2 := bS h s hs
  have key : ∀ k, k ≤ 9 → anyN (fun k => decide (gH bh bs np h s < gH bh bs np (k + 1) s) || decide (gS bh bs np h s < gS bh bs np h (k + 1))) k = false → jWP w l mX11_rests 2 0 0 (fun r t => r = some (.int (jb (rst bh bs np h s))) ∧ t = (n, shE, J, L, R)) (fun _ _ => False) 2 [(0, .ref 1069), (1, .int (nI h)), (2, .int (nI s)), (3, .int (nI (k + 1)))] [] (n, shE, J, L, R) := by
    refine jdown _ (fun k hk ih => ?_)
    intro ha
    refine jx_iload_n dX11_rests_2 rfl ?_
    refine jx_bipush (v := 9) dX11_rests_3 (by decide) ?_
    refine jx_icmpN_gt (a := (k + 1)) (b := 9) 50 dX11_rests_5 (by decide) (by omega) (by omega) (fun h5 => ?_) (fun h5 => ?_)
    · refine jx_iconst (v := 1) dX11_rests_50 (by decide) ?_
      refine jx_zret dX11_rests_51 rfl ?_ ?_
      · first | exact Or.inl rfl | exact Or.inr rfl | exact jb_or _
      refine ⟨?_, rfl⟩
      have hk9 : k = 9 := by omega
      subst hk9
      unfold rst
      rw [ha]; rfl
    · have b3 := bH (k + 1) s (by omega)
      have b4 := bS h (k + 1) (by omega)
      refine jx_aload_n dX11_rests_8 rfl ?_
      refine jx_iconst (v := 1) dX11_rests_9 (by decide) ?_
      refine jx_iload_n dX11_rests_10 rfl ?_
      refine jx_iload_n dX11_rests_11 rfl ?_
      refine jx_Vi (as := [.int (jb true), .int _, .int _]) dX11_rests_12 mlX11_509 okX11_gain viX11_gain rfl rfl rfl rfl rfl (by decide) (Nat.le_of_ble_eq_true rfl) (tX11_gainH hW hR hnp hn6 hbh hbs (by omega) (by omega)) ?_
      refine jx_aload_n dX11_rests_15 rfl ?_
      refine jx_iconst (v := 1) dX11_rests_16 (by decide) ?_
      refine jx_iload_n dX11_rests_17 rfl ?_
      refine jx_iload_n dX11_rests_18 rfl ?_
      refine jx_Vi (as := [.int (jb true), .int _, .int _]) dX11_rests_19 mlX11_509 okX11_gain viX11_gain rfl rfl rfl rfl rfl (by decide) (Nat.le_of_ble_eq_true rfl) (tX11_gainH hW hR hnp hn6 hbh hbs (by omega) (by omega)) ?_
      refine jx_icmpN_gt (a := (gH bh bs np (k + 1) s)) (b := (gH bh bs np h s)) 42 dX11_rests_22 (by decide) (by omega) (by omega) (fun h22 => ?_) (fun h22 => ?_)
      · refine jx_iconst (v := 0) dX11_rests_42 (by decide) ?_
        refine jx_zret dX11_rests_43 rfl ?_ ?_
        · first | exact Or.inl rfl | exact Or.inr rfl | exact jb_or _
        refine ⟨?_, rfl⟩
        have hg : (fun k => decide (gH bh bs np h s < gH bh bs np (k + 1) s) || decide (gS bh bs np h s < gS bh bs np h (k + 1))) k = true := by
          show (decide (gH bh bs np h s < gH bh bs np (k + 1) s) || decide (gS bh bs np h s < gS bh bs np h (k + 1))) = true
          first | (rw [decide_eq_true h22, Bool.true_or]; done) | (rw [decide_eq_true h39, Bool.or_true]; done)
        unfold rst
        rw [anyN_of hg (by omega)]; rfl
      · refine jx_aload_n dX11_rests_25 rfl ?_
        refine jx_iconst (v := 0) dX11_rests_26 (by decide) ?_
        refine jx_iload_n dX11_rests_27 rfl ?_
        refine jx_iload_n dX11_rests_28 rfl ?_
        refine jx_Vi (as := [.int (jb false), .int _, .int _]) dX11_rests_29 mlX11_509 okX11_gain viX11_gain rfl rfl rfl rfl rfl (by decide) (Nat.le_of_ble_eq_true rfl) (tX11_gainS hW hR hnp hn6 hbh hbs (by omega) (by omega)) ?_
        refine jx_aload_n dX11_rests_32 rfl ?_
        refine jx_iconst (v := 0) dX11_rests_33 (by decide) ?_
        refine jx_iload_n dX11_rests_34 rfl ?_
        refine jx_iload_n dX11_rests_35 rfl ?_
        refine jx_Vi (as := [.int (jb false), .int _, .int _]) dX11_rests_36 mlX11_509 okX11_gain viX11_gain rfl rfl rfl rfl rfl (by decide) (Nat.le_of_ble_eq_true rfl) (tX11_gainS hW hR hnp hn6 hbh hbs (by omega) (by omega)) ?_
        refine jx_icmpN_le (a := (gS bh bs np h (k + 1))) (b := (gS bh bs np h s)) 44 dX11_rests_39 (by decide) (by omega) (by omega) (fun h39 => ?_) (fun h39 => ?_)
        · refine jx_iinc dX11_rests_44 rfl (v := nI ((k + 1) + 1)) (nI_1 _) (by decide) ?_
          refine jx_goto 2 dX11_rests_47 (by decide) ?_
          refine jx_ls (by exact ⟨rfl, rfl, rfl, rfl, trivial⟩) (ih (by omega) ?_)
          show (anyN (fun k => decide (gH bh bs np h s < gH bh bs np (k + 1) s) || decide (gS bh bs np h s < gS bh bs np h (k + 1))) k || (fun k => decide (gH bh bs np h s < gH bh bs np (k + 1) s) || decide (gS bh bs np h s < gS bh bs np h (k + 1))) k) = false
          rw [ha, Bool.false_or]
          show (decide (gH bh bs np h s < gH bh bs np (k + 1) s) || decide (gS bh bs np h s < gS bh bs np h (k + 1))) = false
          rw [decide_eq_false (by omega), decide_eq_false (by omega)]; rfl
        · refine jx_iconst (v := 0) dX11_rests_42 (by decide) ?_
          refine jx_zret dX11_rests_43 rfl ?_ ?_
          · first | exact Or.inl rfl | exact Or.inr rfl | exact jb_or _
          refine ⟨?_, rfl⟩
          have hg : (fun k => decide (gH bh bs np h s < gH bh bs np (k + 1) s) || decide (gS bh bs np h s < gS bh bs np h (k + 1))) k = true := by
            show (decide (gH bh bs np h s < gH bh bs np (k + 1) s) || decide (gS bh bs np h s < gS bh bs np h (k + 1))) = true
            first | (rw [decide_eq_true h22, Bool.true_or]; done) | (rw [decide_eq_true h39, Bool.or_true]; done)
          unfold rst
          rw [anyN_of hg (by omega)]; rfl
  refine jx_iconst (v := 1) dX11_rests_0 (by decide) ?_
  refine jx_istore_n dX11_rests_1 rfl (by decide) ?_
  exact jx_ls (by exact ⟨rfl, rfl, rfl, rfl, trivial⟩) (key 0 (by omega) rfl)
set_option maxHeartbeats 1000000 in
set_option maxRecDepth 20000 in
theorem tX11_rentsF (hW : jWok w l) (hR : RS R) {W H np len : Nat} (hI : RI I W H np len) (day tick k : Int32) (hbad : ¬ (dayQ day = true ∧ tickQ tick = true ∧ 0 ≤ k.toInt ∧ k.toInt ≤ 1)) : jCD w l mX11_rents 3 [.ref 1069, .int day, .int tick, .int k] (n, shE, I, L, R) (some (.int 0)) (n, shE, upI I 1069 2 1, L, R) := by
  refine jCD_of hW (by decide) rfl (Nat.le_of_ble_eq_true rfl) ?_
  have hI0 := hI.kp (k0 I)
  refine jx_aload_n dX11_rents_0 rfl ?_
  refine jx_iconst (v := 0) dX11_rents_1 (by decide) ?_
  refine jx_putI dX11_rents_2 flX11_187 rfl rfl (fun r h => by cases h; rfl) ?_
  refine jx_iload_n dX11_rents_5 rfl ?_
  refine jx_Si (as := [.int _]) dX11_rents_6 mlX11_438 okX11_isDay stX11_isDay rfl rfl (by decide) (Nat.le_of_ble_eq_true rfl) (tX11_isDay hW _) ?_
  refine jx_ifB_eq 28 dX11_rents_9 (by decide) (fun h9 => ?_) (fun h9 => ?_)
  · refine jx_aload_n dX11_rents_28 rfl ?_
    refine jx_iconst (v := 1) dX11_rents_29 (by decide) ?_
    refine jx_Vi (as := [.int _]) dX11_rents_30 mlX11_351 okX11_fail viX11_fail rfl rfl rfl rfl rfl (by decide) (Nat.le_of_ble_eq_true rfl) (tX11_fail hW _) ?_
    refine jx_iret dX11_rents_33 rfl ?_
    exact ⟨rfl, by rw [up_up]⟩
  · refine jx_iload_n dX11_rents_12 rfl ?_
    refine jx_Si (as := [.int _]) dX11_rents_13 mlX11_445 okX11_isTick stX11_isTick rfl rfl (by decide) (Nat.le_of_ble_eq_true rfl) (tX11_isTick hW _) ?_
    refine jx_ifB_eq 28 dX11_rents_16 (by decide) (fun h16 => ?_) (fun h16 => ?_)
    · refine jx_aload_n dX11_rents_28 rfl ?_
      refine jx_iconst (v := 1) dX11_rents_29 (by decide) ?_
      refine jx_Vi (as := [.int _]) dX11_rents_30 mlX11_351 okX11_fail viX11_fail rfl rfl rfl rfl rfl (by decide) (Nat.le_of_ble_eq_true rfl) (tX11_fail hW _) ?_
      refine jx_iret dX11_rents_33 rfl ?_
      exact ⟨rfl, by rw [up_up]⟩
    · refine jx_iload_n dX11_rents_19 rfl ?_
      refine jx_if_lt 28 dX11_rents_20 (by decide) (fun h20 => ?_) (fun h20 => ?_)
      · refine jx_aload_n dX11_rents_28 rfl ?_
        refine jx_iconst (v := 1) dX11_rents_29 (by decide) ?_
        refine jx_Vi (as := [.int _]) dX11_rents_30 mlX11_351 okX11_fail viX11_fail rfl rfl rfl rfl rfl (by decide) (Nat.le_of_ble_eq_true rfl) (tX11_fail hW _) ?_
        refine jx_iret dX11_rents_33 rfl ?_
        exact ⟨rfl, by rw [up_up]⟩
      · refine jx_iload_n dX11_rents_23 rfl ?_
        refine jx_iconst (v := 1) dX11_rents_24 (by decide) ?_
        refine jx_icmp_le 34 dX11_rents_25 (by decide) (fun h25 => ?_) (fun h25 => ?_)
        · exact absurd ⟨h9, h16, by rw [Int32.not_lt, Int32.le_iff_toInt_le] at h20; exact h20, by rw [Int32.le_iff_toInt_le] at h25; exact h25⟩ hbad
        · refine jx_aload_n dX11_rents_28 rfl ?_
          refine jx_iconst (v := 1) dX11_rents_29 (by decide) ?_
          refine jx_Vi (as := [.int _]) dX11_rents_30 mlX11_351 okX11_fail viX11_fail rfl rfl rfl rfl rfl (by decide) (Nat.le_of_ble_eq_true rfl) (tX11_fail hW _) ?_
          refine jx_iret dX11_rents_33 rfl ?_
          exact ⟨rfl, by rw [up_up]⟩
set_option maxHeartbeats 1000000 in
set_option maxRecDepth 20000 in
theorem tX11_rents (hW : jWok w l) (hR : RS R) {W H np len : Nat} (hI : RI I W H np len) {day tick k : Nat} (hd : day ≤ 40) (ht : tick < 96) (hk : k ≤ 1) : jRi w l mX11_rents 6 [.ref 1069, .int (nI day), .int (nI tick), .int (nI k)] (n, shE, I, L, R) (fun r t => r = rntV (byK I W H len day tick 1) (byK I W H len day tick 2) np k ∧ ∃ J, t = (n, shE, J, L, R) ∧ eqs (upI I 1069 2 0) J) := by
  refine jRi_of hW (by decide) rfl (Nat.le_of_ble_eq_true rfl) ?_
  have hI0 := hI.kp (k0 I)
  have hT := hI0.1.1
  have hz := hT.wh
  have hw3 := hT.2.2.1
  have hw9 := hT.2.2.2.1
  have hh1 := hT.2.2.2.2.1
  have hh7 := hT.2.2.2.2.2
  have hnp := hI0.2.2.2.2.1.2
  refine jx_aload_n dX11_rents_0 rfl ?_
  refine jx_iconst (v := 0) dX11_rents_1 (by decide) ?_
  refine jx_putI dX11_rents_2 flX11_187 rfl rfl (fun r h => by cases h; rfl) ?_
  refine jx_iload_n dX11_rents_5 rfl ?_
  refine jx_Si (as := [.int _]) dX11_rents_6 mlX11_438 okX11_isDay stX11_isDay rfl rfl (by decide) (Nat.le_of_ble_eq_true rfl) (tX11_isDayT hW hd) ?_
  refine jx_ifB_eq 28 dX11_rents_9 (by decide) (fun h9 => by cases h9) (fun h9 => ?_)
  refine jx_iload_n dX11_rents_12 rfl ?_
  refine jx_Si (as := [.int _]) dX11_rents_13 mlX11_445 okX11_isTick stX11_isTick rfl rfl (by decide) (Nat.le_of_ble_eq_true rfl) (tX11_isTickT hW ht) ?_
  refine jx_ifB_eq 28 dX11_rents_16 (by decide) (fun h16 => by cases h16) (fun h16 => ?_)
  refine jx_iload_n dX11_rents_19 rfl ?_
  refine jx_ifN_lt (a := k) 28 dX11_rents_20 (by decide) (by omega) ?_
  refine jx_iload_n dX11_rents_23 rfl ?_
  refine jx_iconst (v := 1) dX11_rents_24 (by decide) ?_
  refine jx_icmpN_le (a := k) (b := 1) 34 dX11_rents_25 (by decide) (by omega) (by omega) (fun h25 => ?_) (fun h25 => ?_)
  · refine jx_aload_n dX11_rents_34 rfl ?_
    refine jx_iload_n dX11_rents_35 rfl ?_
    refine jx_aload_n dX11_rents_36 rfl ?_
    refine jx_getR dX11_rents_37 flX11_34 rfl rfl (hR _ _ _ rfl) ?_
    refine jx_bipush (v := 7) dX11_rents_40 (by decide) ?_
    refine jx_ialdN (7) dX11_rents_42 rfl (rfl) (by omega) (by omega) ?_
    refine jx_VRv (as := [.int _, .int _]) dX11_rents_43 mlX11_416 okX11_tellDay viX11_tellDay rfl rfl rfl rfl rfl (by decide) (Nat.le_of_ble_eq_true rfl) (tX11_tellDay hW hR hI0 hd _) (fun t43 hq43 => ?_)
    obtain ⟨J1, rfl, he1, htd⟩ := hq43
    refine jx_iconst (v := 0) dX11_rents_46 (by decide) ?_
    refine jx_istore dX11_rents_47 (by decide) ?_
    have htd0 : TD I J1 W H len day (I 1072 7) := by
      refine ⟨fun t ht => ?_, fun c hc => ?_⟩
      · rw [htd.1 t ht, k0 I 1082 (by omega) (by omega), k0 I 1072 (by omega) (by omega)]
      · rw [htd.2 c hc, qq_kp (k0 I)]
    have keyO : ∀ K, eqs (upI I 1069 2 0) K → (∀ p, p < np → K 1107 p = jb ((byK I W H len day tick 1) p)) → (∀ p, p < np → K 1108 p = jb ((byK I W H len day tick 2) p)) → ∀ u, u ≤ 9 → jWP w l mX11_rents 6 0 0 (fun v t => ∃ r, v = some (.int r) ∧ (fun r t => r = rntV (byK I W H len day tick 1) (byK I W H len day tick 2) np k ∧ ∃ J, t = (n, shE, J, L, R) ∧ eqs (upI I 1069 2 0) J) r t) (fun _ _ => False) 106 [(0, .ref 1069), (1, .int (nI day)), (2, .int (nI tick)), (3, .int (nI k)), (4, .int (nI (cntN (rf (byK I W H len day tick 1) (byK I W H len day tick 2) np) (9 * u)))), (5, .int (oI ((fnd (rf (byK I W H len day tick 1) (byK I W H len day tick 2) np) (9 * u)).map (fun i => 10 * (i / 9 + 1) + (i % 9 + 1))))), (6, .int (nI (u + 1)))] [] (n, shE, K, L, R) := by
      intro K he kh ks
      have hK10 : K 1072 10 = nI np := by rw [kp_t (k0 I) (eqs_kp he) 1072 (by omega) (by omega)]; exact hI.2.2.2.2.1.1
      refine jdown _ (fun u hu ihu => ?_)
      have keyI : u < 9 → ∀ v, v ≤ 9 → jWP w l mX11_rents 6 0 0 (fun v t => ∃ r, v = some (.int r) ∧ (fun r t => r = rntV (byK I W H len day tick 1) (byK I W H len day tick 2) np k ∧ ∃ J, t = (n, shE, J, L, R) ∧ eqs (upI I 1069 2 0) J) r t) (fun _ _ => False) 116 [(0, .ref 1069), (1, .int (nI day)), (2, .int (nI tick)), (3, .int (nI k)), (4, .int (nI (cntN (rf (byK I W H len day tick 1) (byK I W H len day tick 2) np) (9 * u + v)))), (5, .int (oI ((fnd (rf (byK I W H len day tick 1) (byK I W H len day tick 2) np) (9 * u + v)).map (fun i => 10 * (i / 9 + 1) + (i % 9 + 1))))), (6, .int (nI (u + 1))), (7, .int (nI (v + 1)))] [] (n, shE, K, L, R) := by
        intro hu9
        refine jdown _ (fun v hv ih => ?_)
        have hcl := cntN_le (rf (byK I W H len day tick 1) (byK I W H len day tick 2) np) (9 * u + v)
        have hrf : v < 9 → (rf (byK I W H len day tick 1) (byK I W H len day tick 2) np) (9 * u + v) = rst (byK I W H len day tick 1) (byK I W H len day tick 2) np (u + 1) (v + 1) := fun h => by
          show rst _ _ _ ((9 * u + v) / 9 + 1) ((9 * u + v) % 9 + 1) = _
          rw [show (9 * u + v) / 9 = u by omega, show (9 * u + v) % 9 = v by omega]
        refine jx_iload dX11_rents_116 rfl ?_
        refine jx_bipush (v := 9) dX11_rents_118 (by decide) ?_
        refine jx_icmpN_gt (a := (v + 1)) (b := 9) 167 dX11_rents_120 (by decide) (by omega) (by omega) (fun h120 => ?_) (fun h120 => ?_)
        · refine jx_iinc dX11_rents_167 rfl (v := nI ((u + 1) + 1)) (nI_1 _) (by decide) ?_
          refine jx_goto 106 dX11_rents_170 (by decide) ?_
          have hv9 : v = 9 := by omega
          subst hv9
          exact jx_ls (by exact ⟨rfl, rfl, rfl, rfl, rfl, rfl, rfl, trivial⟩) (ihu hu9)
        · refine jx_aload_n dX11_rents_123 rfl ?_
          refine jx_iload dX11_rents_124 rfl ?_
          refine jx_iload dX11_rents_126 rfl ?_
          refine jx_Vi (as := [.int _, .int _]) dX11_rents_128 mlX11_517 okX11_rests viX11_rests rfl rfl rfl rfl rfl (by decide) (Nat.le_of_ble_eq_true rfl) (tX11_rests hW hR hK10 hnp kh ks (by omega) (by omega)) ?_
          refine jx_ifB_ne 137 dX11_rents_131 (by decide) (fun h131 => ?_) (fun h131 => ?_)
          · have hf := (hrf (by omega)).trans h131
            have kk := ih (by omega)
            rw [show cntN (rf (byK I W H len day tick 1) (byK I W H len day tick 2) np) (9 * u + (v + 1)) = cntN (rf (byK I W H len day tick 1) (byK I W H len day tick 2) np) (9 * u + v) + 1 from by
              show cntN (rf (byK I W H len day tick 1) (byK I W H len day tick 2) np) (9 * u + v) + (if (rf (byK I W H len day tick 1) (byK I W H len day tick 2) np) (9 * u + v) = true then 1 else 0) = _
              rw [if_pos hf]] at kk
            cases hx : fnd (rf (byK I W H len day tick 1) (byK I W H len day tick 2) np) (9 * u + v) with
            | none =>
              show jWP w l mX11_rents 6 0 0 _ _ 137 [(0, .ref 1069), (1, .int (nI day)), (2, .int (nI tick)), (3, .int (nI k)), (4, .int (nI (cntN (rf (byK I W H len day tick 1) (byK I W H len day tick 2) np) (9 * u + v)))), (5, .int (-1)), (6, .int (nI (u + 1))), (7, .int (nI (v + 1)))] [] _
              refine jx_iinc dX11_rents_137 rfl (v := nI ((cntN (rf (byK I W H len day tick 1) (byK I W H len day tick 2) np) (9 * u + v)) + 1)) (nI_1 _) (by decide) ?_
              refine jx_iload dX11_rents_140 rfl ?_
              refine jx_iconst (v := -1) dX11_rents_142 (by decide) ?_
              refine jx_icmp_ne 157 dX11_rents_143 (by decide) (fun h143 => ?_) (fun h143 => ?_)
              · exact absurd rfl h143
              · refine jx_bipush (v := 10) dX11_rents_146 (by decide) ?_
                refine jx_iload dX11_rents_148 rfl ?_
                refine jx_imulE (z := nI (10 * (u + 1))) dX11_rents_150 (pk_mul 10 (u + 1)) ?_
                refine jx_iload dX11_rents_151 rfl ?_
                refine jx_iaddE (z := nI ((10 * (u + 1)) + (v + 1))) dX11_rents_153 (nI_add (10 * (u + 1)) (v + 1)) ?_
                refine jx_goto 159 dX11_rents_154 (by decide) ?_
                refine jx_istore dX11_rents_159 (by decide) ?_
                refine jx_iinc dX11_rents_161 rfl (v := nI ((v + 1) + 1)) (nI_1 _) (by decide) ?_
                refine jx_goto 116 dX11_rents_164 (by decide) ?_
                rw [show fnd (rf (byK I W H len day tick 1) (byK I W H len day tick 2) np) (9 * u + (v + 1)) = some (9 * u + v) from by
                  show (match fnd (rf (byK I W H len day tick 1) (byK I W H len day tick 2) np) (9 * u + v) with | some t => some t | none => if (rf (byK I W H len day tick 1) (byK I W H len day tick 2) np) (9 * u + v) = true then some (9 * u + v) else none) = _
                  rw [hx]; exact if_pos hf] at kk
                rw [show (some (9 * u + v)).map (fun i => 10 * (i / 9 + 1) + (i % 9 + 1)) = some (10 * (u + 1) + (v + 1)) from by show some (10 * ((9 * u + v) / 9 + 1) + ((9 * u + v) % 9 + 1)) = _; rw [show (9 * u + v) / 9 = u by omega, show (9 * u + v) % 9 = v by omega]] at kk
                exact jx_ls (by exact ⟨rfl, rfl, rfl, rfl, rfl, rfl, rfl, rfl, trivial⟩) kk
            | some x =>
              have hxl := fnd_lt hx
              show jWP w l mX11_rents 6 0 0 _ _ 137 [(0, .ref 1069), (1, .int (nI day)), (2, .int (nI tick)), (3, .int (nI k)), (4, .int (nI (cntN (rf (byK I W H len day tick 1) (byK I W H len day tick 2) np) (9 * u + v)))), (5, .int (nI (10 * (x / 9 + 1) + (x % 9 + 1)))), (6, .int (nI (u + 1))), (7, .int (nI (v + 1)))] [] _
              refine jx_iinc dX11_rents_137 rfl (v := nI ((cntN (rf (byK I W H len day tick 1) (byK I W H len day tick 2) np) (9 * u + v)) + 1)) (nI_1 _) (by decide) ?_
              refine jx_iload dX11_rents_140 rfl ?_
              refine jx_iconst (v := -1) dX11_rents_142 (by decide) ?_
              refine jx_icmp_ne 157 dX11_rents_143 (by decide) (fun h143 => ?_) (fun h143 => ?_)
              · refine jx_iload dX11_rents_157 rfl ?_
                refine jx_istore dX11_rents_159 (by decide) ?_
                refine jx_iinc dX11_rents_161 rfl (v := nI ((v + 1) + 1)) (nI_1 _) (by decide) ?_
                refine jx_goto 116 dX11_rents_164 (by decide) ?_
                rw [show fnd (rf (byK I W H len day tick 1) (byK I W H len day tick 2) np) (9 * u + (v + 1)) = some x from by
                  show (match fnd (rf (byK I W H len day tick 1) (byK I W H len day tick 2) np) (9 * u + v) with | some t => some t | none => if (rf (byK I W H len day tick 1) (byK I W H len day tick 2) np) (9 * u + v) = true then some (9 * u + v) else none) = _
                  rw [hx]] at kk
                exact jx_ls (by exact ⟨rfl, rfl, rfl, rfl, rfl, rfl, rfl, rfl, trivial⟩) kk
              · exfalso
                have e2 := congrArg Int32.toInt h143
                rw [nI_toInt (by omega), show (-1 : Int32).toInt = -1 from by decide] at e2
                omega
          · have hf := (hrf (by omega)).trans h131
            have kk := ih (by omega)
            rw [show cntN (rf (byK I W H len day tick 1) (byK I W H len day tick 2) np) (9 * u + (v + 1)) = cntN (rf (byK I W H len day tick 1) (byK I W H len day tick 2) np) (9 * u + v) from by
              show cntN (rf (byK I W H len day tick 1) (byK I W H len day tick 2) np) (9 * u + v) + (if (rf (byK I W H len day tick 1) (byK I W H len day tick 2) np) (9 * u + v) = true then 1 else 0) = _
              rw [hf]; rfl] at kk
            rw [show fnd (rf (byK I W H len day tick 1) (byK I W H len day tick 2) np) (9 * u + (v + 1)) = fnd (rf (byK I W H len day tick 1) (byK I W H len day tick 2) np) (9 * u + v) from by
              show (match fnd (rf (byK I W H len day tick 1) (byK I W H len day tick 2) np) (9 * u + v) with | some t => some t | none => if (rf (byK I W H len day tick 1) (byK I W H len day tick 2) np) (9 * u + v) = true then some (9 * u + v) else none) = _
              rw [hf]; cases fnd (rf (byK I W H len day tick 1) (byK I W H len day tick 2) np) (9 * u + v) <;> rfl] at kk
            refine jx_goto 161 dX11_rents_134 (by decide) ?_
            refine jx_iinc dX11_rents_161 rfl (v := nI ((v + 1) + 1)) (nI_1 _) (by decide) ?_
            refine jx_goto 116 dX11_rents_164 (by decide) ?_
            exact jx_ls (by exact ⟨rfl, rfl, rfl, rfl, rfl, rfl, rfl, rfl, trivial⟩) kk
      refine jx_iload dX11_rents_106 rfl ?_
      refine jx_bipush (v := 9) dX11_rents_108 (by decide) ?_
      refine jx_icmpN_gt (a := (u + 1)) (b := 9) 173 dX11_rents_110 (by decide) (by omega) (by omega) (fun h110 => ?_) (fun h110 => ?_)
      · refine jx_iload_n dX11_rents_173 rfl ?_
        refine jx_ifN_ne (a := k) 182 dX11_rents_174 (by decide) (by omega) (fun h174 => ?_) (fun h174 => ?_)
        · refine jx_iload dX11_rents_182 rfl ?_
          refine jx_iret dX11_rents_184 rfl ?_
          have hu9 : u = 9 := by omega
          subst hu9
          refine ⟨_, rfl, ?_, _, rfl, he⟩
          unfold rntV
          first | (rw [if_pos h174]; done) | (rw [if_neg h174]; done)
        · refine jx_iload dX11_rents_177 rfl ?_
          refine jx_goto 184 dX11_rents_179 (by decide) ?_
          refine jx_iret dX11_rents_184 rfl ?_
          have hu9 : u = 9 := by omega
          subst hu9
          refine ⟨_, rfl, ?_, _, rfl, he⟩
          unfold rntV
          first | (rw [if_pos h174]; done) | (rw [if_neg h174]; done)
      · refine jx_iconst (v := 1) dX11_rents_113 (by decide) ?_
        refine jx_istore dX11_rents_114 (by decide) ?_
        exact jx_ls (by exact ⟨rfl, rfl, rfl, rfl, rfl, rfl, rfl, rfl, trivial⟩) (keyI (by omega) 0 (by omega))
    have keyP : ∀ p, p ≤ np → ∀ K, eqs (upI I 1069 2 0) K → TD I K W H len day (I 1072 7) → (∀ q, q < p → K 1107 q = jb ((byK I W H len day tick 1) q)) → (∀ q, q < p → K 1108 q = jb ((byK I W H len day tick 2) q)) → jWP w l mX11_rents 6 0 0 (fun v t => ∃ r, v = some (.int r) ∧ (fun r t => r = rntV (byK I W H len day tick 1) (byK I W H len day tick 2) np k ∧ ∃ J, t = (n, shE, J, L, R) ∧ eqs (upI I 1069 2 0) J) r t) (fun _ _ => False) 49 [(0, .ref 1069), (1, .int (nI day)), (2, .int (nI tick)), (3, .int (nI k)), (4, .int (nI p))] [] (n, shE, K, L, R) := by
      refine jdown _ (fun p hp ih => ?_)
      intro K he htK kh ks
      have hkp := kp_t (k0 I) (eqs_kp he)
      have hK10 : K 1072 10 = nI np := by rw [hkp 1072 (by omega) (by omega)]; exact hI.2.2.2.2.1.1
      refine jx_iload dX11_rents_49 rfl ?_
      refine jx_aload_n dX11_rents_51 rfl ?_
      refine jx_getR dX11_rents_52 flX11_34 rfl rfl (hR _ _ _ rfl) ?_
      refine jx_bipush (v := 10) dX11_rents_55 (by decide) ?_
      refine jx_ialdE (10) dX11_rents_57 rfl (rfl) (by omega) (by omega) (hK10) ?_
      refine jx_icmpN_ge (a := p) (b := np) 97 dX11_rents_58 (by decide) (by omega) (by omega) (fun h58 => ?_) (fun h58 => ?_)
      · refine jx_iconst (v := 0) dX11_rents_97 (by decide) ?_
        refine jx_istore dX11_rents_98 (by decide) ?_
        refine jx_iconst (v := -1) dX11_rents_100 (by decide) ?_
        refine jx_istore dX11_rents_101 (by decide) ?_
        refine jx_iconst (v := 1) dX11_rents_103 (by decide) ?_
        refine jx_istore dX11_rents_104 (by decide) ?_
        have hpn : p = np := by omega
        subst hpn
        exact jx_ls (by exact ⟨rfl, rfl, rfl, rfl, rfl, rfl, rfl, trivial⟩) (keyO K he kh ks 0 (by omega))
      · refine jx_aload_n dX11_rents_61 rfl ?_
        refine jx_getR dX11_rents_62 flX11_148 rfl rfl (hR _ _ _ rfl) ?_
        refine jx_iload dX11_rents_65 rfl ?_
        refine jx_aload_n dX11_rents_67 rfl ?_
        refine jx_iload dX11_rents_68 rfl ?_
        refine jx_iconst (v := 1) dX11_rents_70 (by decide) ?_
        refine jx_iload_n dX11_rents_71 rfl ?_
        refine jx_VRi (as := [.int _, .int _, .int _]) dX11_rents_72 mlX11_513 okX11_canBy viX11_canBy rfl rfl rfl rfl rfl (by decide) (Nat.le_of_ble_eq_true rfl) (tX11_canBy (kind := 1) hW hR hI h58 (by omega) ht hkp htK) (fun x72 t72 hq72 => ?_)
        obtain ⟨rfl, KA, rfl, heA⟩ := hq72
        have hkpA : kp I KA := kp_t hkp (eqs_kp (eqS_s heA))
        refine jx_zastN (p) dX11_rents_75 rfl (rfl) (by omega) (by omega) ?_
        have htA : TD I (upI KA 1107 p (jb (decide (¬ sn W H (paceOf 1 (cN (I 1077 p)) 0) (mK I W H len day (I 1072 7) 1 (cN (I 1078 p))) (W * cN (I 1079 p)) tick = 1000)) &&& 1)) W H len day (I 1072 7) := by
          refine ⟨fun t ht => ?_, fun c hc => ?_⟩
          · rw [upI_nea' (by decide), heA 1088 t (by decide) (by decide) (by omega)]; exact htK.1 t ht
          · rw [upI_nea' (by decide), heA 1089 c (by decide) (by decide) (by omega)]; exact htK.2 c hc
        refine jx_aload_n dX11_rents_76 rfl ?_
        refine jx_getR dX11_rents_77 flX11_151 rfl rfl (hR _ _ _ rfl) ?_
        refine jx_iload dX11_rents_80 rfl ?_
        refine jx_aload_n dX11_rents_82 rfl ?_
        refine jx_iload dX11_rents_83 rfl ?_
        refine jx_iconst (v := 2) dX11_rents_85 (by decide) ?_
        refine jx_iload_n dX11_rents_86 rfl ?_
        refine jx_VRi (as := [.int _, .int _, .int _]) dX11_rents_87 mlX11_513 okX11_canBy viX11_canBy rfl rfl rfl rfl rfl (by decide) (Nat.le_of_ble_eq_true rfl) (tX11_canBy (kind := 2) hW hR hI h58 (by omega) ht (kp_u hkpA (by omega)) htA) (fun x87 t87 hq87 => ?_)
        obtain ⟨rfl, KB, rfl, heB⟩ := hq87
        refine jx_zastN (p) dX11_rents_90 rfl (rfl) (by omega) (by omega) ?_
        refine jx_iinc dX11_rents_91 rfl (v := nI (p + 1)) (nI_1 _) (by decide) ?_
        refine jx_goto 49 dX11_rents_94 (by decide) ?_
        refine jx_ls (by exact ⟨rfl, rfl, rfl, rfl, rfl, trivial⟩) (ih h58 _ (eqs_u (eqs_t (eqs_u (eqs_t he (eqS_s heA)) (scrA (by decide) (by decide) _)) (eqS_s heB)) (scrA (by decide) (by decide) _)) ⟨fun t ht => ?_, fun c hc => ?_⟩ (fun q hq => ?_) (fun q hq => ?_))
        · rw [upI_nea' (by decide), heB 1088 t (by decide) (by decide) (by omega)]; exact htA.1 t ht
        · rw [upI_nea' (by decide), heB 1089 c (by decide) (by decide) (by omega)]; exact htA.2 c hc
        · rw [upI_nea' (by decide), heB 1107 q (by decide) (by decide) (by omega)]
          by_cases e : q = p
          · subst e; rw [upI_s, jb_and1]; rfl
          · rw [upI_j e, heA 1107 q (by decide) (by decide) (by omega)]; exact kh q (by omega)
        · by_cases e : q = p
          · subst e; rw [upI_s, jb_and1]; rfl
          · rw [upI_j e, heB 1108 q (by decide) (by decide) (by omega), upI_nea' (by decide), heA 1108 q (by decide) (by decide) (by omega)]; exact ks q (by omega)
    exact jx_ls (by exact ⟨rfl, rfl, rfl, rfl, rfl, trivial⟩) (keyP 0 (by omega) J1 (eqs_x he1 (by decide) (by decide)) htd0 (fun q hq => absurd hq (by omega)) (fun q hq => absurd hq (by omega)))
  · omega
end RO
