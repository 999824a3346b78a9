/-! THE REFERENCE: which motions fit, what is sound -/
def qm (I : Nat → Nat → Int32) (W H m day : Nat) (c : Nat) : Bool := qOn W H (fun k => cN (I 1075 k)) day (((m / 5 : Nat) : Int) - 2) (((m % 5 : Nat) : Int) - 2) (cN (I 1072 4)) c
def ftM (I : Nat → Nat → Int32) (W H s m : Nat) : Bool := !(anyN (fun k => qm I W H m (cN (I 1105 k)) (cN (I 1104 k)) != decide (I 1106 k = 1)) s)
theorem qm_kp {I J : Nat → Nat → Int32} (h : kp I J) (W H m day : Nat) : qm J W H m day = qm I W H m day := by
  funext c; unfold qm; rw [h 1072 (by omega) (by omega), h 1075 (by omega) (by omega)]
theorem ftM_s {I J : Nat → Nat → Int32} (h : eqs I J) (W H s m : Nat) : ftM J W H s m = ftM I W H s m := by
  unfold ftM
  rw [show (fun k => qm J W H m (cN (J 1105 k)) (cN (J 1104 k)) != decide (J 1106 k = 1)) = (fun k => qm I W H m (cN (I 1105 k)) (cN (I 1104 k)) != decide (I 1106 k = 1)) from funext fun k => by rw [qm_kp (eqs_kp h), h 1105 k (by unfold scr; simp), h 1104 k (by unfold scr; simp), h 1106 k (by unfold scr; simp)]]
theorem RSk.s {I J : Nat → Nat → Int32} {W H s : Nat} (h : RSk I W H s) (he : eqs I J) : RSk J W H s := by
  have e : ∀ a, 1104 ≤ a → a ≤ 1106 → J a = I a := fun a h1 h2 => funext fun j => he a j (by
    unfold scr
    simp only [Bool.or_eq_false_iff, decide_eq_false_iff_not]
    omega)
  unfold RSk at *
  rw [he 1069 33 (by decide), e 1104 (by omega) (by omega), e 1105 (by omega) (by omega), e 1106 (by omega) (by omega)]
  exact h
theorem RSk.c {I : Nat → Nat → Int32} {W H s : Nat} (h : RSk I W H s) (v : Int32) : RSk (upI I 1069 2 v) W H s := by
  unfold RSk at *
  refine ⟨(upI_j (by decide)).trans h.1, ?_⟩
  rw [c_ne I v (by decide), c_ne I v (by decide), c_ne I v (by decide)]
  exact h.2
theorem eq89 {I J : Nat → Nat → Int32} (h : eqx [1089] I J) : eqs I J := eqs_x h (by decide) (by decide)
theorem fl89 (J : Nat → Nat → Int32) (f : Nat → Int32) (k : Nat) : eqx [1089] J (fl J 1089 f k) := fun b j hb => fl_ne (fun q => hb (by rw [q]; decide))
def sh1 (c : Nat) : Int64 := 1 <<< ((nI c).toInt64 &&& 63)
def bset (f : Nat → Bool) : Nat → Int64
  | 0 => 0
  | c + 1 => if f c = true then bset f c ||| sh1 c else bset f c
def qset (I : Nat → Nat → Int32) (W H m day : Nat) : Int64 := bset (qm I W H m day) (W * H)
def smN (ft : Nat → Bool) (q : Nat → Int64) : Nat → Int64
  | 0 => 0
  | m + 1 => if ft m = true then smN ft q m ||| q m else smN ft q m
def evN (ft : Nat → Bool) (q : Nat → Int64) (all : Int64) : Nat → Int64
  | 0 => all
  | m + 1 => if ft m = true then evN ft q all m &&& q m else evN ft q all m
def allV (W H : Nat) : Int64 := sh1 (W * H) - 1
def sndV (ft : Nat → Bool) (q : Nat → Int64) (all : Int64) (doubt : Bool) : Int64 := if anyN ft 25 = false then 0 else if doubt = true then smN ft q 25 &&& (evN ft q all 25 ^^^ (-1)) else all &&& (smN ft q 25 ^^^ (-1))
theorem smN_congr {ft gt : Nat → Bool} {q r : Nat → Int64} (h1 : ∀ m, ft m = gt m) (h2 : ∀ m, q m = r m) (k : Nat) : smN ft q k = smN gt r k := by rw [funext h1, funext h2]
section RN
variable {w : jWD} {l : Launch} {n : Nat} {I J : Nat → Nat → Int32} {L : Nat → Nat → Int64} {R : Nat → Nat → Option Nat}

set_option maxHeartbeats 1000000 in
set_option maxRecDepth 20000 in
theorem tX11_fitsMotion (hW : jWok w l) (hR : RS R) {W H np len s : Nat} (hI : RI I W H np len) (hS : RSk I W H s) {m : Nat} (hm : m < 25) : jRi w l mX11_fitsMotion 3 [.ref 1069, .int (nI m)] (n, shE, I, L, R) (fun r t => r = jb (ftM I W H s m) ∧ ∃ J, t = (n, shE, J, L, R) ∧ eqx [1089] I J) := by
  refine jRi_of hW (by decide) rfl (Nat.le_of_ble_eq_true rfl) ?_
  have hT := hI.1.1
  have hz := hT.wh
  have hw3 := hT.2.2.1
  have hw9 := hT.2.2.2.1
  have hh1 := hT.2.2.2.2.1
  have hh7 := hT.2.2.2.2.2
  obtain ⟨hs, hs12, hsk⟩ := hS
  have hm5 : m / 5 ≤ 4 := by omega
  have hm6 : m % 5 ≤ 4 := by omega
  have key : ∀ k, k ≤ s → anyN (fun k => qm I W H m (cN (I 1105 k)) (cN (I 1104 k)) != decide (I 1106 k = 1)) k = false → ∀ J, eqx [1089] I J → jWP w l mX11_fitsMotion 3 0 0 (fun v t => ∃ r, v = some (.int r) ∧ (fun r t => r = jb (ftM I W H s m) ∧ ∃ J, t = (n, shE, J, L, R) ∧ eqx [1089] I J) r t) (fun _ _ => False) 2 [(0, .ref 1069), (1, .int (nI m)), (2, .int (nI k))] [] (n, shE, J, L, R) := by
    refine jdown _ (fun k hk ih => ?_)
    intro ha J he
    have hkp := kp_x he (by decide)
    have hJ := hI.kp hkp
    refine jx_iload_n dX11_fitsMotion_2 rfl ?_
    refine jx_aload_n dX11_fitsMotion_3 rfl ?_
    refine jx_getIE dX11_fitsMotion_4 flX11_366 rfl rfl ((he 1069 33 (by decide)).trans hs) ?_
    refine jx_icmpN_ge (a := k) (b := s) 58 dX11_fitsMotion_7 (by decide) (by omega) (by omega) (fun h7 => ?_) (fun h7 => ?_)
    · refine jx_iconst (v := 1) dX11_fitsMotion_58 (by decide) ?_
      refine jx_zret dX11_fitsMotion_59 rfl ?_ ?_
      · first | exact Or.inl rfl | exact Or.inr rfl | exact jb_or _
      have hks : k = s := by omega
      subst hks
      refine ⟨_, rfl, ?_, _, rfl, he⟩
      unfold ftM
      rw [ha]; rfl
    · have hk1 := hsk k h7
      have hq1 := hk1.1.2
      have hq2 := hk1.2.1.2
      refine jx_aload_n dX11_fitsMotion_10 rfl ?_
      refine jx_aload_n dX11_fitsMotion_11 rfl ?_
      refine jx_getR dX11_fitsMotion_12 flX11_142 rfl rfl (hR _ _ _ rfl) ?_
      refine jx_iload_n dX11_fitsMotion_15 rfl ?_
      refine jx_ialdE (k) dX11_fitsMotion_16 rfl (rfl) (by omega) (by omega) ((he 1105 k (by decide)).trans hk1.2.1.1) ?_
      refine jx_iload_n dX11_fitsMotion_17 rfl ?_
      refine jx_iconst (v := 5) dX11_fitsMotion_18 (by decide) ?_
      refine jx_idivE (z := nI (m / 5)) dX11_fitsMotion_19 (nI_ne0 (n := 5) (by omega) (by omega)) (pk_div (a := m) (d := 5) (by omega) (by omega) (by omega)) ?_
      refine jx_iconst (v := 2) dX11_fitsMotion_20 (by decide) ?_
      refine jx_isubE (z := zI (((m / 5 : Nat) : Int) - 2)) dX11_fitsMotion_21 (by rw [nI_zI, show (2 : Int32) = zI 2 from rfl, zI_sub]) ?_
      refine jx_iload_n dX11_fitsMotion_22 rfl ?_
      refine jx_iconst (v := 5) dX11_fitsMotion_23 (by decide) ?_
      refine jx_iremE (z := nI (m % 5)) dX11_fitsMotion_24 (nI_ne0 (n := 5) (by omega) (by omega)) (pk_rem (a := m) (d := 5) (by omega) (by omega) (by omega)) ?_
      refine jx_iconst (v := 2) dX11_fitsMotion_25 (by decide) ?_
      refine jx_isubE (z := zI (((m % 5 : Nat) : Int) - 2)) dX11_fitsMotion_26 (by rw [nI_zI, show (2 : Int32) = zI 2 from rfl, zI_sub]) ?_
      refine jx_Vv (as := [.int _, .int _, .int _]) dX11_fitsMotion_27 mlX11_386 okX11_tellQuick viX11_tellQuick rfl rfl rfl rfl rfl (by decide) (Nat.le_of_ble_eq_true rfl) (tX11_tellQuick hW hR hJ.1 hq2 (by rw [zI_toInt (by omega) (by omega)]; omega) (by rw [zI_toInt (by omega) (by omega)]; omega) (by rw [zI_toInt (by omega) (by omega)]; omega) (by rw [zI_toInt (by omega) (by omega)]; omega)) ?_
      rw [show (fun c => jb (qOn W H (fun k => cN (J 1075 k)) (cN (I 1105 k)) (zI (((m / 5 : Nat) : Int) - 2)).toInt (zI (((m % 5 : Nat) : Int) - 2)).toInt (cN (J 1072 4)) c)) = (fun c => jb (qm I W H m (cN (I 1105 k)) c)) from by
        funext c
        rw [zI_toInt (by omega) (by omega), zI_toInt (by omega) (by omega), hkp 1075 (by omega) (by omega), hkp 1072 (by omega) (by omega)]
        rfl]
      refine jx_aload_n dX11_fitsMotion_30 rfl ?_
      refine jx_getR dX11_fitsMotion_31 flX11_91 rfl rfl (hR _ _ _ rfl) ?_
      refine jx_aload_n dX11_fitsMotion_34 rfl ?_
      refine jx_getR dX11_fitsMotion_35 flX11_139 rfl rfl (hR _ _ _ rfl) ?_
      refine jx_iload_n dX11_fitsMotion_38 rfl ?_
      refine jx_ialdE (k) dX11_fitsMotion_39 rfl (rfl) (by omega) (by omega) ((fl_ne (by decide)).trans ((he 1104 k (by decide)).trans hk1.1.1)) ?_
      refine jx_zaldE (cN (I 1104 k)) dX11_fitsMotion_40 rfl (rfl) (by omega) (by omega) (fl_in hq1) ?_
      refine jx_aload_n dX11_fitsMotion_41 rfl ?_
      refine jx_getR dX11_fitsMotion_42 flX11_145 rfl rfl (hR _ _ _ rfl) ?_
      refine jx_iload_n dX11_fitsMotion_45 rfl ?_
      refine jx_zaldE (k) dX11_fitsMotion_46 rfl (rfl) (by omega) (by omega) ((fl_ne (by decide)).trans (he 1106 k (by decide))) ?_
      refine jx_icmp_eq 52 dX11_fitsMotion_47 (by decide) (fun h47 => ?_) (fun h47 => ?_)
      · refine jx_iinc dX11_fitsMotion_52 rfl (v := nI (k + 1)) (nI_1 _) (by decide) ?_
        refine jx_goto 2 dX11_fitsMotion_55 (by decide) ?_
        refine jx_ls (by exact ⟨rfl, rfl, rfl, trivial⟩) (ih h7 ?_ _ (eqx_t he (fl89 _ _ _)))
        show (anyN (fun k => qm I W H m (cN (I 1105 k)) (cN (I 1104 k)) != decide (I 1106 k = 1)) k || (fun k => qm I W H m (cN (I 1105 k)) (cN (I 1104 k)) != decide (I 1106 k = 1)) k) = false
        rw [ha, Bool.false_or]
        show (qm I W H m (cN (I 1105 k)) (cN (I 1104 k)) != decide (I 1106 k = 1)) = false
        cases hx : qm I W H m (cN (I 1105 k)) (cN (I 1104 k)) with
        | true => rw [hx] at h47; rw [decide_eq_true (show I 1106 k = 1 from h47.symm)]; rfl
        | false => rw [hx] at h47; rw [← h47]; decide
      · have hne : (fun k => qm I W H m (cN (I 1105 k)) (cN (I 1104 k)) != decide (I 1106 k = 1)) k = true := by
          show (qm I W H m (cN (I 1105 k)) (cN (I 1104 k)) != decide (I 1106 k = 1)) = true
          cases hx : qm I W H m (cN (I 1105 k)) (cN (I 1104 k)) with
          | true =>
            rw [hx] at h47
            rw [decide_eq_false (fun z => h47 (by rw [z]; rfl))]; rfl
          | false =>
            rw [hx] at h47
            rw [decide_eq_true (hk1.2.2.resolve_left (fun z => h47 (by rw [z]; rfl)))]; rfl
        refine jx_iconst (v := 0) dX11_fitsMotion_50 (by decide) ?_
        refine jx_zret dX11_fitsMotion_51 rfl ?_ ?_
        · first | exact Or.inl rfl | exact Or.inr rfl | exact jb_or _
        refine ⟨_, rfl, ?_, _, rfl, eqx_t he (fl89 _ _ _)⟩
        unfold ftM
        rw [anyN_of hne h7]; rfl
  refine jx_iconst (v := 0) dX11_fitsMotion_0 (by decide) ?_
  refine jx_istore_n dX11_fitsMotion_1 rfl (by decide) ?_
  exact jx_ls (by exact ⟨rfl, rfl, rfl, trivial⟩) (key 0 (by omega) rfl I (eqx_r _ _))
set_option maxHeartbeats 1000000 in
set_option maxRecDepth 20000 in
theorem tX11_motionsF (hW : jWok w l) (hR : RS R) {W H np len : Nat} (hI : RI I W H np len) (k : Int32) (hbad : ¬ (0 ≤ k.toInt ∧ k.toInt ≤ 1)) : jCD w l mX11_motions 3 [.ref 1069, .int k] (n, shE, I, L, R) (some (.int 0)) (n, shE, upI I 1069 2 1, L, R) := by
  refine jCD_of hW (by decide) rfl (Nat.le_of_ble_eq_true rfl) ?_
  have hI0 := hI.kp (k0 I)
  refine jx_aload_n dX11_motions_0 rfl ?_
  refine jx_iconst (v := 0) dX11_motions_1 (by decide) ?_
  refine jx_putI dX11_motions_2 flX11_187 rfl rfl (fun r h => by cases h; rfl) ?_
  refine jx_iload_n dX11_motions_5 rfl ?_
  refine jx_if_lt 14 dX11_motions_6 (by decide) (fun h6 => ?_) (fun h6 => ?_)
  · refine jx_aload_n dX11_motions_14 rfl ?_
    refine jx_iconst (v := 1) dX11_motions_15 (by decide) ?_
    refine jx_Vi (as := [.int _]) dX11_motions_16 mlX11_351 okX11_fail viX11_fail rfl rfl rfl rfl rfl (by decide) (Nat.le_of_ble_eq_true rfl) (tX11_fail hW _) ?_
    refine jx_iret dX11_motions_19 rfl ?_
    exact ⟨rfl, by rw [up_up]⟩
  · refine jx_iload_n dX11_motions_9 rfl ?_
    refine jx_iconst (v := 1) dX11_motions_10 (by decide) ?_
    refine jx_icmp_le 20 dX11_motions_11 (by decide) (fun h11 => ?_) (fun h11 => ?_)
    · exact absurd ⟨by rw [Int32.not_lt, Int32.le_iff_toInt_le] at h6; exact h6, by rw [Int32.le_iff_toInt_le] at h11; exact h11⟩ hbad
    · refine jx_aload_n dX11_motions_14 rfl ?_
      refine jx_iconst (v := 1) dX11_motions_15 (by decide) ?_
      refine jx_Vi (as := [.int _]) dX11_motions_16 mlX11_351 okX11_fail viX11_fail rfl rfl rfl rfl rfl (by decide) (Nat.le_of_ble_eq_true rfl) (tX11_fail hW _) ?_
      refine jx_iret dX11_motions_19 rfl ?_
      exact ⟨rfl, by rw [up_up]⟩
set_option maxHeartbeats 1000000 in
set_option maxRecDepth 20000 in
theorem tX11_motions (hW : jWok w l) (hR : RS R) {W H np len : Nat} (hI : RI I W H np len) {s : Nat} (hS : RSk I W H s) {k : Nat} (hk : k ≤ 1) : jRi w l mX11_motions 4 [.ref 1069, .int (nI k)] (n, shE, I, L, R) (fun r t => r = (if k = 0 then nI (cntN (ftM I W H s) 25) else oI (fnd (ftM I W H s) 25)) ∧ ∃ J, t = (n, shE, J, L, R) ∧ eqs (upI I 1069 2 0) J) := by
  refine jRi_of hW (by decide) rfl (Nat.le_of_ble_eq_true rfl) ?_
  have hI0 := hI.kp (k0 I)
  have hT := hI0.1.1
  have hz := hT.wh
  have hw3 := hT.2.2.1
  have hw9 := hT.2.2.2.1
  have hh1 := hT.2.2.2.2.1
  have hh7 := hT.2.2.2.2.2
  have hnp := hI0.2.2.2.2.1.2
  refine jx_aload_n dX11_motions_0 rfl ?_
  refine jx_iconst (v := 0) dX11_motions_1 (by decide) ?_
  refine jx_putI dX11_motions_2 flX11_187 rfl rfl (fun r h => by cases h; rfl) ?_
  refine jx_iload_n dX11_motions_5 rfl ?_
  refine jx_ifN_lt (a := k) 14 dX11_motions_6 (by decide) (by omega) ?_
  refine jx_iload_n dX11_motions_9 rfl ?_
  refine jx_iconst (v := 1) dX11_motions_10 (by decide) ?_
  refine jx_icmpN_le (a := k) (b := 1) 20 dX11_motions_11 (by decide) (by omega) (by omega) (fun h11 => ?_) (fun h11 => ?_)
  · refine jx_iconst (v := 0) dX11_motions_20 (by decide) ?_
    refine jx_istore_n dX11_motions_21 rfl (by decide) ?_
    refine jx_iconst (v := -1) dX11_motions_22 (by decide) ?_
    refine jx_istore_n dX11_motions_23 rfl (by decide) ?_
    refine jx_iconst (v := 0) dX11_motions_24 (by decide) ?_
    refine jx_istore dX11_motions_25 (by decide) ?_
    have hS0 := hS.c 0
    have key : ∀ q, q ≤ 25 → ∀ J, eqx [1089] (upI I 1069 2 0) J → jWP w l mX11_motions 4 0 0 (fun v t => ∃ r, v = some (.int r) ∧ (fun r t => r = (if k = 0 then nI (cntN (ftM I W H s) 25) else oI (fnd (ftM I W H s) 25)) ∧ ∃ J, t = (n, shE, J, L, R) ∧ eqs (upI I 1069 2 0) J) r t) (fun _ _ => False) 27 [(0, .ref 1069), (1, .int (nI k)), (2, .int (nI (cntN (ftM I W H s) q))), (3, .int (oI (fnd (ftM I W H s) q))), (4, .int (nI q))] [] (n, shE, J, L, R) := by
      refine jdown _ (fun q hq ih => ?_)
      intro J he
      have hJ := hI0.kp (kp_x he (by decide))
      have hcl := cntN_le (ftM I W H s) q
      refine jx_iload dX11_motions_27 rfl ?_
      refine jx_bipush (v := 25) dX11_motions_29 (by decide) ?_
      refine jx_icmpN_ge (a := q) (b := 25) 67 dX11_motions_31 (by decide) (by omega) (by omega) (fun h31 => ?_) (fun h31 => ?_)
      · refine jx_iload_n dX11_motions_67 rfl ?_
        refine jx_ifN_ne (a := k) 75 dX11_motions_68 (by decide) (by omega) (fun h68 => ?_) (fun h68 => ?_)
        · refine jx_iload_n dX11_motions_75 rfl ?_
          refine jx_iret dX11_motions_76 rfl ?_
          have h25 : q = 25 := by omega
          subst h25
          refine ⟨_, rfl, ?_, _, rfl, eq89 he⟩
          first | rw [if_pos h68] | rw [if_neg h68]
        · refine jx_iload_n dX11_motions_71 rfl ?_
          refine jx_goto 76 dX11_motions_72 (by decide) ?_
          refine jx_iret dX11_motions_76 rfl ?_
          have h25 : q = 25 := by omega
          subst h25
          refine ⟨_, rfl, ?_, _, rfl, eq89 he⟩
          first | rw [if_pos h68] | rw [if_neg h68]
      · refine jx_aload_n dX11_motions_34 rfl ?_
        refine jx_iload dX11_motions_35 rfl ?_
        refine jx_VRi (as := [.int _]) dX11_motions_37 mlX11_503 okX11_fitsMotion viX11_fitsMotion rfl rfl rfl rfl rfl (by decide) (Nat.le_of_ble_eq_true rfl) (tX11_fitsMotion hW hR hJ (hS0.s (eq89 he)) h31) (fun x37 t37 hq37 => ?_)
        obtain ⟨rfl, J2, rfl, he2⟩ := hq37
        rw [ftM_s (eq89 he), show ftM (upI I 1069 2 0) W H s q = ftM I W H s q from rfl]
        refine jx_ifB_ne 46 dX11_motions_40 (by decide) (fun h40 => ?_) (fun h40 => ?_)
        · have hf := h40
          have kk := ih h31 J2 (eqx_t he he2)
          rw [show cntN (ftM I W H s) (q + 1) = cntN (ftM I W H s) q + 1 from by
            show cntN (ftM I W H s) q + (if (ftM I W H s) q = true then 1 else 0) = _
            rw [if_pos hf]] at kk
          cases hx : fnd (ftM I W H s) q with
          | none =>
            show jWP w l mX11_motions 4 0 0 _ _ 46 [(0, .ref 1069), (1, .int (nI k)), (2, .int (nI (cntN (ftM I W H s) q))), (3, .int (-1)), (4, .int (nI q))] [] _
            refine jx_iinc dX11_motions_46 rfl (v := nI ((cntN (ftM I W H s) q) + 1)) (nI_1 _) (by decide) ?_
            refine jx_iload_n dX11_motions_49 rfl ?_
            refine jx_iconst (v := -1) dX11_motions_50 (by decide) ?_
            refine jx_icmp_ne 59 dX11_motions_51 (by decide) (fun h51 => ?_) (fun h51 => ?_)
            · exact absurd rfl h51
            · refine jx_iload dX11_motions_54 rfl ?_
              refine jx_goto 60 dX11_motions_56 (by decide) ?_
              refine jx_istore_n dX11_motions_60 rfl (by decide) ?_
              refine jx_iinc dX11_motions_61 rfl (v := nI (q + 1)) (nI_1 _) (by decide) ?_
              refine jx_goto 27 dX11_motions_64 (by decide) ?_
              rw [show fnd (ftM I W H s) (q + 1) = some q from by
                show (match fnd (ftM I W H s) q with | some t => some t | none => if (ftM I W H s) q = true then some q else none) = _
                rw [hx]; exact if_pos hf] at kk
              exact jx_ls (by exact ⟨rfl, rfl, rfl, rfl, rfl, trivial⟩) kk
          | some x =>
            have hxl := fnd_lt hx
            show jWP w l mX11_motions 4 0 0 _ _ 46 [(0, .ref 1069), (1, .int (nI k)), (2, .int (nI (cntN (ftM I W H s) q))), (3, .int (nI x)), (4, .int (nI q))] [] _
            refine jx_iinc dX11_motions_46 rfl (v := nI ((cntN (ftM I W H s) q) + 1)) (nI_1 _) (by decide) ?_
            refine jx_iload_n dX11_motions_49 rfl ?_
            refine jx_iconst (v := -1) dX11_motions_50 (by decide) ?_
            refine jx_icmp_ne 59 dX11_motions_51 (by decide) (fun h51 => ?_) (fun h51 => ?_)
            · refine jx_iload_n dX11_motions_59 rfl ?_
              refine jx_istore_n dX11_motions_60 rfl (by decide) ?_
              refine jx_iinc dX11_motions_61 rfl (v := nI (q + 1)) (nI_1 _) (by decide) ?_
              refine jx_goto 27 dX11_motions_64 (by decide) ?_
              rw [show fnd (ftM I W H s) (q + 1) = some x from by
                show (match fnd (ftM I W H s) q with | some t => some t | none => if (ftM I W H s) q = true then some q else none) = _
                rw [hx]] at kk
              exact jx_ls (by exact ⟨rfl, rfl, rfl, rfl, rfl, trivial⟩) kk
            · exfalso
              have e2 := congrArg Int32.toInt h51
              rw [nI_toInt (by omega), show (-1 : Int32).toInt = -1 from by decide] at e2
              omega
        · have hf := h40
          have kk := ih h31 J2 (eqx_t he he2)
          rw [show cntN (ftM I W H s) (q + 1) = cntN (ftM I W H s) q from by
            show cntN (ftM I W H s) q + (if (ftM I W H s) q = true then 1 else 0) = _
            rw [hf]; rfl] at kk
          rw [show fnd (ftM I W H s) (q + 1) = fnd (ftM I W H s) q from by
            show (match fnd (ftM I W H s) q with | some t => some t | none => if (ftM I W H s) q = true then some q else none) = _
            rw [hf]; cases fnd (ftM I W H s) q <;> rfl] at kk
          refine jx_goto 61 dX11_motions_43 (by decide) ?_
          refine jx_iinc dX11_motions_61 rfl (v := nI (q + 1)) (nI_1 _) (by decide) ?_
          refine jx_goto 27 dX11_motions_64 (by decide) ?_
          exact jx_ls (by exact ⟨rfl, rfl, rfl, rfl, rfl, trivial⟩) kk
    exact jx_ls (by exact ⟨rfl, rfl, rfl, rfl, rfl, trivial⟩) (key 0 (by omega) _ (eqx_r _ _))
  · omega
set_option maxHeartbeats 1000000 in
set_option maxRecDepth 20000 in
theorem tX11_soundF (hW : jWok w l) (hR : RS R) (day z : Int32) (hbad : ¬ dayQ day = true) : jCD w l mX11_sound 4 [.ref 1069, .int day, .int z] (n, shE, I, L, R) (some (.long 0)) (n, shE, upI I 1069 2 1, L, R) := by
  refine jCD_of hW (by decide) rfl (Nat.le_of_ble_eq_true rfl) ?_
  refine jx_aload_n dX11_sound_0 rfl ?_
  refine jx_iconst (v := 0) dX11_sound_1 (by decide) ?_
  refine jx_putI dX11_sound_2 flX11_187 rfl rfl (fun r h => by cases h; rfl) ?_
  refine jx_iload_n dX11_sound_5 rfl ?_
  refine jx_Si (as := [.int _]) dX11_sound_6 mlX11_438 okX11_isDay stX11_isDay rfl rfl (by decide) (Nat.le_of_ble_eq_true rfl) (tX11_isDay hW _) ?_
  refine jx_ifB_ne 19 dX11_sound_9 (by decide) (fun h9 => ?_) (fun h9 => ?_)
  · exact absurd h9 hbad
  · refine jx_aload_n dX11_sound_12 rfl ?_
    refine jx_iconst (v := 1) dX11_sound_13 (by decide) ?_
    refine jx_Vi (as := [.int _]) dX11_sound_14 mlX11_351 okX11_fail viX11_fail rfl rfl rfl rfl rfl (by decide) (Nat.le_of_ble_eq_true rfl) (tX11_fail hW _) ?_
    refine jx_i2l dX11_sound_17 ?_
    refine jx_lret dX11_sound_18 rfl ?_
    exact ⟨rfl, by rw [up_up]⟩
set_option maxHeartbeats 1000000 in
set_option maxRecDepth 20000 in
theorem tX11_sound (hW : jWok w l) (hR : RS R) {W H np len : Nat} (hI : RI I W H np len) {s : Nat} (hS : RSk I W H s) {day : Nat} (z : Bool) (hd : day ≤ 40) : jRl w l mX11_sound 4 [.ref 1069, .int (nI day), .int (jb z)] (n, shE, I, L, R) (fun r t => r = sndV (ftM I W H s) (fun m => qset I W H m day) (allV W H) z ∧ ∃ J, t = (n, shE, J, L, R) ∧ eqs (upI I 1069 2 0) J) := by
  refine jRl_of hW (by decide) rfl (Nat.le_of_ble_eq_true rfl) ?_
  have hI0 := hI.kp (k0 I)
  have hT := hI0.1.1
  have hz := hT.wh
  have hw3 := hT.2.2.1
  have hw9 := hT.2.2.2.1
  have hh1 := hT.2.2.2.2.1
  have hh7 := hT.2.2.2.2.2
  have hnp := hI0.2.2.2.2.1.2
  refine jx_aload_n dX11_sound_0 rfl ?_
  refine jx_iconst (v := 0) dX11_sound_1 (by decide) ?_
  refine jx_putI dX11_sound_2 flX11_187 rfl rfl (fun r h => by cases h; rfl) ?_
  refine jx_iload_n dX11_sound_5 rfl ?_
  refine jx_Si (as := [.int _]) dX11_sound_6 mlX11_438 okX11_isDay stX11_isDay rfl rfl (by decide) (Nat.le_of_ble_eq_true rfl) (tX11_isDayT hW hd) ?_
  refine jx_ifB_ne 19 dX11_sound_9 (by decide) (fun h9 => ?_) (fun h9 => by cases h9)
  refine jx_lconst (v := 1) dX11_sound_19 (by decide) ?_
  refine jx_aload_n dX11_sound_20 rfl ?_
  refine jx_getR dX11_sound_21 flX11_34 rfl rfl (hR _ _ _ rfl) ?_
  refine jx_iconst (v := 0) dX11_sound_24 (by decide) ?_
  refine jx_ialdE (0) dX11_sound_25 rfl (rfl) (by omega) (by omega) (hT.1) ?_
  refine jx_aload_n dX11_sound_26 rfl ?_
  refine jx_getR dX11_sound_27 flX11_34 rfl rfl (hR _ _ _ rfl) ?_
  refine jx_iconst (v := 1) dX11_sound_30 (by decide) ?_
  refine jx_ialdE (1) dX11_sound_31 rfl (rfl) (by omega) (by omega) (hT.2.1) ?_
  refine jx_imulE (z := nI (W * H)) dX11_sound_32 (pk_mul W H) ?_
  refine jx_lshl dX11_sound_33 ?_
  refine jx_lconst (v := 1) dX11_sound_34 (by decide) ?_
  refine jx_lsub dX11_sound_35 ?_
  refine jx_lstore_n dX11_sound_36 rfl (by decide) ?_
  refine jx_lconst (v := 0) dX11_sound_37 (by decide) ?_
  refine jx_lstore dX11_sound_38 (by decide) ?_
  refine jx_lload_n dX11_sound_40 rfl ?_
  refine jx_lstore dX11_sound_41 (by decide) ?_
  refine jx_iconst (v := 0) dX11_sound_43 (by decide) ?_
  refine jx_istore dX11_sound_44 (by decide) ?_
  refine jx_iconst (v := 0) dX11_sound_46 (by decide) ?_
  refine jx_istore dX11_sound_47 (by decide) ?_
  have hS0 := hS.c 0
  have key : ∀ q, q ≤ 25 → ∀ J, eqx [1089] (upI I 1069 2 0) J → jWP w l mX11_sound 4 0 0 (fun v t => ∃ r, v = some (.long r) ∧ (fun r t => r = sndV (ftM I W H s) (fun m => qset I W H m day) (allV W H) z ∧ ∃ J, t = (n, shE, J, L, R) ∧ eqs (upI I 1069 2 0) J) r t) (fun _ _ => False) 49 [(0, .ref 1069), (1, .int (nI day)), (2, .int (jb z)), (3, .long (allV W H)), (5, .long (smN (ftM I W H s) (fun m => qset I W H m day) q)), (7, .long (evN (ftM I W H s) (fun m => qset I W H m day) (allV W H) q)), (9, .int (jb (anyN (ftM I W H s) q))), (10, .int (nI q))] [] (n, shE, J, L, R) := by
    refine jdown _ (fun q hq ih => ?_)
    intro J he
    have hkp := kp_t (k0 I) (kp_x he (by decide))
    have hJ := hI.kp hkp
    have hm5 : q / 5 ≤ 5 := by omega
    have hm6 : q % 5 ≤ 4 := by omega
    refine jx_iload dX11_sound_49 rfl ?_
    refine jx_bipush (v := 25) dX11_sound_51 (by decide) ?_
    refine jx_icmpN_ge (a := q) (b := 25) 161 dX11_sound_53 (by decide) (by omega) (by omega) (fun h53 => ?_) (fun h53 => ?_)
    · refine jx_iload dX11_sound_161 rfl ?_
      refine jx_ifB_ne 170 dX11_sound_163 (by decide) (fun h163 => ?_) (fun h163 => ?_)
      · refine jx_iload_n dX11_sound_170 rfl ?_
        refine jx_ifB_eq 186 dX11_sound_171 (by decide) (fun h171 => ?_) (fun h171 => ?_)
        · refine jx_lload_n dX11_sound_186 rfl ?_
          refine jx_lload dX11_sound_187 rfl ?_
          refine jx_ldc2 dX11_sound_189 ctX11_460 ?_
          refine jx_lxor dX11_sound_192 ?_
          refine jx_land dX11_sound_193 ?_
          refine jx_lret dX11_sound_194 rfl ?_
          have h25 : q = 25 := by omega
          subst h25
          refine ⟨_, rfl, ?_, _, rfl, eq89 he⟩
          unfold sndV
          first | (rw [if_pos h163]; done) | (rw [if_neg (by rw [h163]; decide), if_pos h171]; done) | rw [if_neg (by rw [h163]; decide), if_neg (by rw [h171]; decide)]
        · refine jx_lload dX11_sound_174 rfl ?_
          refine jx_lload dX11_sound_176 rfl ?_
          refine jx_ldc2 dX11_sound_178 ctX11_460 ?_
          refine jx_lxor dX11_sound_181 ?_
          refine jx_land dX11_sound_182 ?_
          refine jx_goto 194 dX11_sound_183 (by decide) ?_
          refine jx_lret dX11_sound_194 rfl ?_
          have h25 : q = 25 := by omega
          subst h25
          refine ⟨_, rfl, ?_, _, rfl, eq89 he⟩
          unfold sndV
          first | (rw [if_pos h163]; done) | (rw [if_neg (by rw [h163]; decide), if_pos h171]; done) | rw [if_neg (by rw [h163]; decide), if_neg (by rw [h171]; decide)]
      · refine jx_lconst (v := 0) dX11_sound_166 (by decide) ?_
        refine jx_goto 194 dX11_sound_167 (by decide) ?_
        refine jx_lret dX11_sound_194 rfl ?_
        have h25 : q = 25 := by omega
        subst h25
        refine ⟨_, rfl, ?_, _, rfl, eq89 he⟩
        unfold sndV
        first | (rw [if_pos h163]; done) | (rw [if_neg (by rw [h163]; decide), if_pos h171]; done) | rw [if_neg (by rw [h163]; decide), if_neg (by rw [h171]; decide)]
    · refine jx_aload_n dX11_sound_56 rfl ?_
      refine jx_iload dX11_sound_57 rfl ?_
      refine jx_VRi (as := [.int _]) dX11_sound_59 mlX11_503 okX11_fitsMotion viX11_fitsMotion rfl rfl rfl rfl rfl (by decide) (Nat.le_of_ble_eq_true rfl) (tX11_fitsMotion hW hR hJ (hS0.s (eq89 he)) h53) (fun x59 t59 hq59 => ?_)
      obtain ⟨rfl, J2, rfl, he2⟩ := hq59
      rw [ftM_s (eq89 he), show ftM (upI I 1069 2 0) W H s q = ftM I W H s q from rfl]
      refine jx_ifB_ne 68 dX11_sound_62 (by decide) (fun h62 => ?_) (fun h62 => ?_)
      · refine jx_iconst (v := 1) dX11_sound_68 (by decide) ?_
        refine jx_istore dX11_sound_69 (by decide) ?_
        refine jx_aload_n dX11_sound_71 rfl ?_
        refine jx_iload_n dX11_sound_72 rfl ?_
        refine jx_iload dX11_sound_73 rfl ?_
        refine jx_iconst (v := 5) dX11_sound_75 (by decide) ?_
        refine jx_idivE (z := nI (q / 5)) dX11_sound_76 (nI_ne0 (n := 5) (by omega) (by omega)) (pk_div (a := q) (d := 5) (by omega) (by omega) (by omega)) ?_
        refine jx_iconst (v := 2) dX11_sound_77 (by decide) ?_
        refine jx_isubE (z := zI (((q / 5 : Nat) : Int) - 2)) dX11_sound_78 (by rw [nI_zI, show (2 : Int32) = zI 2 from rfl, zI_sub]) ?_
        refine jx_iload dX11_sound_79 rfl ?_
        refine jx_iconst (v := 5) dX11_sound_81 (by decide) ?_
        refine jx_iremE (z := nI (q % 5)) dX11_sound_82 (nI_ne0 (n := 5) (by omega) (by omega)) (pk_rem (a := q) (d := 5) (by omega) (by omega) (by omega)) ?_
        refine jx_iconst (v := 2) dX11_sound_83 (by decide) ?_
        refine jx_isubE (z := zI (((q % 5 : Nat) : Int) - 2)) dX11_sound_84 (by rw [nI_zI, show (2 : Int32) = zI 2 from rfl, zI_sub]) ?_
        refine jx_Vv (as := [.int _, .int _, .int _]) dX11_sound_85 mlX11_386 okX11_tellQuick viX11_tellQuick rfl rfl rfl rfl rfl (by decide) (Nat.le_of_ble_eq_true rfl) (tX11_tellQuick hW hR (hJ.1.of (funext fun j => he2 1072 j (by decide)) (funext fun j => he2 1075 j (by decide))) hd (by rw [zI_toInt (by omega) (by omega)]; omega) (by rw [zI_toInt (by omega) (by omega)]; omega) (by rw [zI_toInt (by omega) (by omega)]; omega) (by rw [zI_toInt (by omega) (by omega)]; omega)) ?_
        rw [show (fun c => jb (qOn W H (fun k => cN (J2 1075 k)) day (zI (((q / 5 : Nat) : Int) - 2)).toInt (zI (((q % 5 : Nat) : Int) - 2)).toInt (cN (J2 1072 4)) c)) = (fun c => jb (qm I W H q day c)) from by
          funext c
          rw [zI_toInt (by omega) (by omega), zI_toInt (by omega) (by omega), show (fun k => cN (J2 1075 k)) = (fun k => cN (I 1075 k)) from funext fun k => by rw [he2 1075 k (by decide), hkp 1075 (by omega) (by omega)], he2 1072 4 (by decide), hkp 1072 (by omega) (by omega)]
          rfl]
        have hf := h62
        have kk := ih h53 _ (eqx_t he (eqx_t he2 (fl89 J2 (fun c => jb (qm I W H q day c)) (W * H))))
        rw [show smN (ftM I W H s) (fun m => qset I W H m day) (q + 1) = smN (ftM I W H s) (fun m => qset I W H m day) q ||| qset I W H q day from if_pos hf, show evN (ftM I W H s) (fun m => qset I W H m day) (allV W H) (q + 1) = evN (ftM I W H s) (fun m => qset I W H m day) (allV W H) q &&& qset I W H q day from if_pos hf, show anyN (ftM I W H s) (q + 1) = true from by show (anyN (ftM I W H s) q || (ftM I W H s) q) = true; rw [hf, Bool.or_true]] at kk
        have hT2 : MT (fl J2 1089 (fun c => jb (qm I W H q day c)) (W * H)) W H := hJ.1.1.of (funext fun j => (fl_ne (by decide)).trans (he2 1072 j (by decide)))
        have keyc : ∀ c, c ≤ W * H → jWP w l mX11_sound 4 0 0 (fun v t => ∃ r, v = some (.long r) ∧ (fun r t => r = sndV (ftM I W H s) (fun m => qset I W H m day) (allV W H) z ∧ ∃ J, t = (n, shE, J, L, R) ∧ eqs (upI I 1069 2 0) J) r t) (fun _ _ => False) 94 [(0, .ref 1069), (1, .int (nI day)), (2, .int (jb z)), (3, .long (allV W H)), (5, .long (smN (ftM I W H s) (fun m => qset I W H m day) q)), (7, .long (evN (ftM I W H s) (fun m => qset I W H m day) (allV W H) q)), (9, .int 1), (10, .int (nI q)), (11, .long (bset (qm I W H q day) c)), (13, .int (nI c))] [] (n, shE, fl J2 1089 (fun c => jb (qm I W H q day c)) (W * H), L, R) := by
          refine jdown _ (fun c hc ihc => ?_)
          refine jx_iload dX11_sound_94 rfl ?_
          refine jx_aload_n dX11_sound_96 rfl ?_
          refine jx_getR dX11_sound_97 flX11_34 rfl rfl (hR _ _ _ rfl) ?_
          refine jx_iconst (v := 0) dX11_sound_100 (by decide) ?_
          refine jx_ialdE (0) dX11_sound_101 rfl (rfl) (by omega) (by omega) (hT2.1) ?_
          refine jx_aload_n dX11_sound_102 rfl ?_
          refine jx_getR dX11_sound_103 flX11_34 rfl rfl (hR _ _ _ rfl) ?_
          refine jx_iconst (v := 1) dX11_sound_106 (by decide) ?_
          refine jx_ialdE (1) dX11_sound_107 rfl (rfl) (by omega) (by omega) (hT2.2.1) ?_
          refine jx_imulE (z := nI (W * H)) dX11_sound_108 (pk_mul W H) ?_
          refine jx_icmpN_ge (a := c) (b := (W * H)) 141 dX11_sound_109 (by decide) (by omega) (by omega) (fun h109 => ?_) (fun h109 => ?_)
          · refine jx_lload dX11_sound_141 rfl ?_
            refine jx_lload dX11_sound_143 rfl ?_
            refine jx_lor dX11_sound_145 ?_
            refine jx_lstore dX11_sound_146 (by decide) ?_
            refine jx_lload dX11_sound_148 rfl ?_
            refine jx_lload dX11_sound_150 rfl ?_
            refine jx_land dX11_sound_152 ?_
            refine jx_lstore dX11_sound_153 (by decide) ?_
            refine jx_iinc dX11_sound_155 rfl (v := nI (q + 1)) (nI_1 _) (by decide) ?_
            refine jx_goto 49 dX11_sound_158 (by decide) ?_
            have hcW : c = W * H := by omega
            subst hcW
            exact jx_ls (by exact ⟨rfl, rfl, rfl, rfl, rfl, rfl, rfl, rfl, trivial⟩) kk
          · refine jx_lload dX11_sound_112 rfl ?_
            refine jx_aload_n dX11_sound_114 rfl ?_
            refine jx_getR dX11_sound_115 flX11_91 rfl rfl (hR _ _ _ rfl) ?_
            refine jx_iload dX11_sound_118 rfl ?_
            refine jx_zaldE (c) dX11_sound_120 rfl (rfl) (by omega) (by omega) (fl_in h109) ?_
            refine jx_ifB_eq 131 dX11_sound_121 (by decide) (fun h121 => ?_) (fun h121 => ?_)
            · refine jx_lconst (v := 0) dX11_sound_131 (by decide) ?_
              refine jx_lorE (z := bset (qm I W H q day) (c + 1)) dX11_sound_132 (by rw [show bset (qm I W H q day) (c + 1) = bset (qm I W H q day) c from if_neg (by rw [h121]; decide)]; exact Int64.or_zero) ?_
              refine jx_lstore dX11_sound_133 (by decide) ?_
              refine jx_iinc dX11_sound_135 rfl (v := nI (c + 1)) (nI_1 _) (by decide) ?_
              refine jx_goto 94 dX11_sound_138 (by decide) ?_
              exact jx_ls (by exact ⟨rfl, rfl, rfl, rfl, rfl, rfl, rfl, rfl, rfl, rfl, trivial⟩) (ihc h109)
            · refine jx_lconst (v := 1) dX11_sound_124 (by decide) ?_
              refine jx_iload dX11_sound_125 rfl ?_
              refine jx_lshl dX11_sound_127 ?_
              refine jx_goto 132 dX11_sound_128 (by decide) ?_
              refine jx_lorE (z := bset (qm I W H q day) (c + 1)) dX11_sound_132 ((if_pos h121).symm) ?_
              refine jx_lstore dX11_sound_133 (by decide) ?_
              refine jx_iinc dX11_sound_135 rfl (v := nI (c + 1)) (nI_1 _) (by decide) ?_
              refine jx_goto 94 dX11_sound_138 (by decide) ?_
              exact jx_ls (by exact ⟨rfl, rfl, rfl, rfl, rfl, rfl, rfl, rfl, rfl, rfl, trivial⟩) (ihc h109)
        refine jx_lconst (v := 0) dX11_sound_88 (by decide) ?_
        refine jx_lstore dX11_sound_89 (by decide) ?_
        refine jx_iconst (v := 0) dX11_sound_91 (by decide) ?_
        refine jx_istore dX11_sound_92 (by decide) ?_
        exact jx_ls (by exact ⟨rfl, rfl, rfl, rfl, rfl, rfl, rfl, rfl, rfl, rfl, trivial⟩) (keyc 0 (by omega))
      · have hf := h62
        have kk := ih h53 J2 (eqx_t he he2)
        rw [show smN (ftM I W H s) (fun m => qset I W H m day) (q + 1) = smN (ftM I W H s) (fun m => qset I W H m day) q from if_neg (by rw [hf]; decide), show evN (ftM I W H s) (fun m => qset I W H m day) (allV W H) (q + 1) = evN (ftM I W H s) (fun m => qset I W H m day) (allV W H) q from if_neg (by rw [hf]; decide), show anyN (ftM I W H s) (q + 1) = anyN (ftM I W H s) q from by show (anyN (ftM I W H s) q || (ftM I W H s) q) = _; rw [hf, Bool.or_false]] at kk
        refine jx_goto 155 dX11_sound_65 (by decide) ?_
        refine jx_iinc dX11_sound_155 rfl (v := nI (q + 1)) (nI_1 _) (by decide) ?_
        refine jx_goto 49 dX11_sound_158 (by decide) ?_
        exact jx_ls (by exact ⟨rfl, rfl, rfl, rfl, rfl, rfl, rfl, rfl, trivial⟩) kk
  exact jx_ls (by exact ⟨rfl, rfl, rfl, rfl, rfl, rfl, rfl, rfl, trivial⟩) (key 0 (by omega) _ (eqx_r _ _))
end RN
