/-! THE REFERENCE: crossing, the way that is kept, starts -/
theorem eqs_f2 {I J : Nat → Nat → Int32} (h : eqs I J) (a k : Nat) (f : Nat → Int32) : eqs (fl I a f k) (fl J a f k) := fun b j hb => by
  unfold fl; split
  · rfl
  · exact h b j hb
theorem eqs_u2 {I J : Nat → Nat → Int32} (h : eqs I J) (a k : Nat) (v : Int32) : eqs (upI I a k v) (upI J a k v) := fun b j hb => by
  unfold upI; split
  · rfl
  · exact h b j hb
theorem eqs_fs {I J : Nat → Nat → Int32} (h : eqs I J) {a k : Nat} {f : Nat → Int32} (ha : ∀ j, scr a j = true) : eqs I (fl J a f k) := fun b j hb => by
  by_cases e : b = a
  · rw [e, ha] at hb; cases hb
  · exact (fl_ne e).trans (h b j hb)
theorem scrA {a : Nat} (h : scr a 0 = true) (h9 : a ≠ 1069) (j : Nat) : scr a j = true := by
  have : scr a j = scr a 0 := by unfold scr; simp [h9]
  rw [this]; exact h
def wyF (I : Nat → Nat → Int32) (W H len day : Nat) (wind : Int32) (p tick k : Nat) : Int32 := nI (wW W H (pcOf I p 0) (mP I W H len day wind p) (sn W H (pcOf I p 0) (mP I W H len day wind p)) (arr I W H len day wind p 0 tick) tick (W * cN (I 1079 p)) k).1
theorem wyF_kp {I J : Nat → Nat → Int32} (h : kp I J) (W H len day : Nat) (wind : Int32) (p tick : Nat) : wyF J W H len day wind p tick = wyF I W H len day wind p tick := by
  funext k; unfold wyF; rw [pcOf_kp h, mP_kp h, arr_kp h, h 1079 (by omega) (by omega)]
/-- least below n -/
def fnd (f : Nat → Bool) : Nat → Option Nat
  | 0 => none
  | n + 1 => match fnd f n with
    | some t => some t
    | none => if f n = true then some n else none
theorem fnd_none {f : Nat → Bool} : ∀ {n : Nat}, fnd f n = none ↔ ∀ t, t < n → f t = false
  | 0 => ⟨fun _ t h => by omega, fun _ => rfl⟩
  | n + 1 => by
    unfold fnd
    cases h : fnd f n with
    | some t =>
      refine ⟨fun q => (by cases q), fun q => ?_⟩
      have := (fnd_none (f := f) (n := n)).mpr (fun t ht => q t (by omega))
      rw [h] at this; cases this
    | none =>
      have h2 := fnd_none.mp h
      by_cases hf : f n = true
      · simp only [hf, if_true]
        refine ⟨fun q => (by cases q), fun q => ?_⟩
        have := q n (by omega)
        rw [hf] at this; cases this
      · simp only [hf]
        refine ⟨fun _ t ht => ?_, fun _ => rfl⟩
        by_cases e : t = n
        · subst e; simpa using hf
        · exact h2 t (by omega)
theorem fnd_some {f : Nat → Bool} {t : Nat} : ∀ {n : Nat}, fnd f n = some t ↔ t < n ∧ f t = true ∧ ∀ j, j < t → f j = false
  | 0 => ⟨fun q => (by cases q), fun q => by omega⟩
  | n + 1 => by
    unfold fnd
    cases h : fnd f n with
    | some u =>
      have h2 := fnd_some.mp h
      refine ⟨fun q => ?_, fun q => ?_⟩
      · have e := Option.some.inj q
        subst e
        exact ⟨by omega, h2.2.1, h2.2.2⟩
      · have e : u = t := by
          rcases Nat.lt_trichotomy u t with e | e | e
          · have := q.2.2 u e; rw [h2.2.1] at this; cases this
          · exact e
          · have := h2.2.2 t e; rw [q.2.1] at this; cases this
        rw [e]
    | none =>
      have h2 := fnd_none.mp h
      by_cases hf : f n = true
      · simp only [hf, if_true]
        refine ⟨fun q => ?_, fun q => ?_⟩
        · have e := Option.some.inj q
          subst e
          exact ⟨by omega, hf, h2⟩
        · have e : t = n := by
            by_cases e : t = n
            · exact e
            · have := h2 t (by omega); rw [q.2.1] at this; cases this
          rw [e]
      · simp only [hf]
        refine ⟨fun q => (by cases q), fun q => ?_⟩
        by_cases e : t = n
        · subst e; exact absurd q.2.1 hf
        · have := h2 t (by omega); rw [q.2.1] at this; cases this
section RI2
variable {w : jWD} {l : Launch} {n : Nat} {I J : Nat → Nat → Int32} {L : Nat → Nat → Int64} {R : Nat → Nat → Option Nat}

set_option maxHeartbeats 1000000 in
set_option maxRecDepth 20000 in
theorem tX11_crossF (hW : jWok w l) (hR : RS R) {W H np len : Nat} (hI : RI I W H np len) (p day tick : Int32) (hbad : ¬ (ltQ p np = true ∧ dayQ day = true ∧ tickQ tick = true)) : jCD w l mX11_cross 3 [.ref 1069, .int p, .int day, .int tick] (n, shE, I, L, R) (some (.int 0)) (n, shE, upI I 1069 2 1, L, R) := by
  refine jCD_of hW (by decide) rfl (Nat.le_of_ble_eq_true rfl) ?_
  have hI0 := hI.kp (k0 I)
  refine jx_aload_n dX11_cross_0 rfl ?_
  refine jx_iconst (v := 0) dX11_cross_1 (by decide) ?_
  refine jx_putI dX11_cross_2 flX11_187 rfl rfl (fun r h => by cases h; rfl) ?_
  refine jx_aload_n dX11_cross_5 rfl ?_
  refine jx_iload_n dX11_cross_6 rfl ?_
  refine jx_Vi (as := [.int _]) dX11_cross_7 mlX11_448 okX11_isParty viX11_isParty rfl rfl rfl rfl rfl (by decide) (Nat.le_of_ble_eq_true rfl) (tX11_isParty hW hR (hI0.2.2.2.2.1.1) hI0.2.2.2.2.1.2 _) ?_
  refine jx_ifB_eq 27 dX11_cross_10 (by decide) (fun h10 => ?_) (fun h10 => ?_)
  · refine jx_aload_n dX11_cross_27 rfl ?_
    refine jx_iconst (v := 1) dX11_cross_28 (by decide) ?_
    refine jx_Vi (as := [.int _]) dX11_cross_29 mlX11_351 okX11_fail viX11_fail rfl rfl rfl rfl rfl (by decide) (Nat.le_of_ble_eq_true rfl) (tX11_fail hW _) ?_
    refine jx_iret dX11_cross_32 rfl ?_
    exact ⟨rfl, by rw [up_up]⟩
  · refine jx_iload_n dX11_cross_13 rfl ?_
    refine jx_Si (as := [.int _]) dX11_cross_14 mlX11_438 okX11_isDay stX11_isDay rfl rfl (by decide) (Nat.le_of_ble_eq_true rfl) (tX11_isDay hW _) ?_
    refine jx_ifB_eq 27 dX11_cross_17 (by decide) (fun h17 => ?_) (fun h17 => ?_)
    · refine jx_aload_n dX11_cross_27 rfl ?_
      refine jx_iconst (v := 1) dX11_cross_28 (by decide) ?_
      refine jx_Vi (as := [.int _]) dX11_cross_29 mlX11_351 okX11_fail viX11_fail rfl rfl rfl rfl rfl (by decide) (Nat.le_of_ble_eq_true rfl) (tX11_fail hW _) ?_
      refine jx_iret dX11_cross_32 rfl ?_
      exact ⟨rfl, by rw [up_up]⟩
    · refine jx_iload_n dX11_cross_20 rfl ?_
      refine jx_Si (as := [.int _]) dX11_cross_21 mlX11_445 okX11_isTick stX11_isTick rfl rfl (by decide) (Nat.le_of_ble_eq_true rfl) (tX11_isTick hW _) ?_
      refine jx_ifB_ne 33 dX11_cross_24 (by decide) (fun h24 => ?_) (fun h24 => ?_)
      · exact absurd ⟨h10, h17, h24⟩ hbad
      · refine jx_aload_n dX11_cross_27 rfl ?_
        refine jx_iconst (v := 1) dX11_cross_28 (by decide) ?_
        refine jx_Vi (as := [.int _]) dX11_cross_29 mlX11_351 okX11_fail viX11_fail rfl rfl rfl rfl rfl (by decide) (Nat.le_of_ble_eq_true rfl) (tX11_fail hW _) ?_
        refine jx_iret dX11_cross_32 rfl ?_
        exact ⟨rfl, by rw [up_up]⟩
set_option maxHeartbeats 1000000 in
set_option maxRecDepth 20000 in
theorem tX11_cross (hW : jWok w l) (hR : RS R) {W H np len : Nat} (hI : RI I W H np len) {p day tick : Nat} (hp : p < np) (hd : day ≤ 40) (ht : tick < 96) : jRi w l mX11_cross 6 [.ref 1069, .int (nI p), .int (nI day), .int (nI tick)] (n, shE, I, L, R) (fun r t => r = aI (arr I W H len day (I 1072 7) p 0 tick) ∧ ∃ J, t = (n, shE, J, L, R) ∧ eqs (if arr I W H len day (I 1072 7) p 0 tick = 1000 then upI I 1069 2 0 else fl (upI (upI I 1069 2 0) 1069 38 (nI (arr I W H len day (I 1072 7) p 0 tick - tick + 1))) 1092 (wyF I W H len day (I 1072 7) p tick) (arr I W H len day (I 1072 7) p 0 tick - tick + 1)) J) := by
  refine jRi_of hW (by decide) rfl (Nat.le_of_ble_eq_true rfl) ?_
  have hI0 := hI.kp (k0 I)
  have hT := hI0.1.1
  have hz := hT.wh
  have hw3 := hT.2.2.1
  have hw9 := hT.2.2.2.1
  have hh1 := hT.2.2.2.2.1
  have hh7 := hT.2.2.2.2.2
  have hnp := hI0.2.2.2.2.1.2
  refine jx_aload_n dX11_cross_0 rfl ?_
  refine jx_iconst (v := 0) dX11_cross_1 (by decide) ?_
  refine jx_putI dX11_cross_2 flX11_187 rfl rfl (fun r h => by cases h; rfl) ?_
  refine jx_aload_n dX11_cross_5 rfl ?_
  refine jx_iload_n dX11_cross_6 rfl ?_
  refine jx_Vi (as := [.int _]) dX11_cross_7 mlX11_448 okX11_isParty viX11_isParty rfl rfl rfl rfl rfl (by decide) (Nat.le_of_ble_eq_true rfl) (tX11_isPartyT hW hR (hI0.2.2.2.2.1.1) hI0.2.2.2.2.1.2 hp) ?_
  refine jx_ifB_eq 27 dX11_cross_10 (by decide) (fun h10 => by cases h10) (fun h10 => ?_)
  refine jx_iload_n dX11_cross_13 rfl ?_
  refine jx_Si (as := [.int _]) dX11_cross_14 mlX11_438 okX11_isDay stX11_isDay rfl rfl (by decide) (Nat.le_of_ble_eq_true rfl) (tX11_isDayT hW hd) ?_
  refine jx_ifB_eq 27 dX11_cross_17 (by decide) (fun h17 => by cases h17) (fun h17 => ?_)
  refine jx_iload_n dX11_cross_20 rfl ?_
  refine jx_Si (as := [.int _]) dX11_cross_21 mlX11_445 okX11_isTick stX11_isTick rfl rfl (by decide) (Nat.le_of_ble_eq_true rfl) (tX11_isTickT hW ht) ?_
  refine jx_ifB_ne 33 dX11_cross_24 (by decide) (fun h24 => ?_) (fun h24 => by cases h24)
  refine jx_aload_n dX11_cross_33 rfl ?_
  refine jx_iload_n dX11_cross_34 rfl ?_
  refine jx_iload_n dX11_cross_35 rfl ?_
  refine jx_aload_n dX11_cross_36 rfl ?_
  refine jx_getR dX11_cross_37 flX11_34 rfl rfl (hR _ _ _ rfl) ?_
  refine jx_bipush (v := 7) dX11_cross_40 (by decide) ?_
  refine jx_ialdN (7) dX11_cross_42 rfl (rfl) (by omega) (by omega) ?_
  refine jx_iconst (v := 0) dX11_cross_43 (by decide) ?_
  refine jx_VRv (as := [.int _, .int _, .int _, .int _]) dX11_cross_44 mlX11_451 okX11_tellParty viX11_tellParty rfl rfl rfl rfl rfl (by decide) (Nat.le_of_ble_eq_true rfl) (tX11_tellParty (fog := 0) hW hR hI0 hp hd (by omega) _) (fun t44 hq44 => ?_)
  obtain ⟨J1, rfl, he1, hts⟩ := hq44
  have hk1 := kp_t (k0 I) (eqs_kp he1)
  have hJ1 := hI.kp hk1
  have eA : arr (upI I 1069 2 0) W H len day (upI I 1069 2 0 1072 7) p 0 tick = arr I W H len day (I 1072 7) p 0 tick := by rw [arr_kp (k0 I), k0 I 1072 (by omega) (by omega)]
  have hrow := (hI.2.2.2.2.2.1 p hp).2.2.2.1
  have eF : (fun i => nI (wW W H (pcOf (upI I 1069 2 0) p 0) (mP (upI I 1069 2 0) W H len day (upI I 1069 2 0 1072 7) p) (sn W H (pcOf (upI I 1069 2 0) p 0) (mP (upI I 1069 2 0) W H len day (upI I 1069 2 0 1072 7) p)) (arr I W H len day (I 1072 7) p 0 tick) tick (W * cN (I 1079 p)) i).1) = (wyF I W H len day (I 1072 7) p tick) := by
    funext i
    rw [pcOf_kp (k0 I), mP_kp (k0 I), k0 I 1072 (by omega) (by omega)]
    rfl
  have hvb := arr_le I W H len day (I 1072 7) p 0 tick
  refine jx_aload_n dX11_cross_47 rfl ?_
  refine jx_iload_n dX11_cross_48 rfl ?_
  refine jx_iload_n dX11_cross_49 rfl ?_
  refine jx_Vi (as := [.int _, .int _]) dX11_cross_50 mlX11_454 okX11_arrives viX11_arrives rfl rfl rfl rfl rfl (by decide) (Nat.le_of_ble_eq_true rfl) (tX11_arrivesP hW hR hI0 he1 hts hp ht) ?_
  rw [eA]
  refine jx_istore dX11_cross_53 (by decide) ?_
  refine jx_iload dX11_cross_55 rfl ?_
  refine jx_iconst (v := -1) dX11_cross_57 (by decide) ?_
  refine jx_icmp_ne 63 dX11_cross_58 (by decide) (fun h58 => ?_) (fun h58 => ?_)
  · have hv : ¬ arr I W H len day (I 1072 7) p 0 tick = 1000 := fun q => h58 ((aI_m (by omega)).mpr q)
    refine jx_aload_n dX11_cross_63 rfl ?_
    refine jx_aload_n dX11_cross_64 rfl ?_
    refine jx_iload_n dX11_cross_65 rfl ?_
    refine jx_iload_n dX11_cross_66 rfl ?_
    refine jx_Vi (as := [.int _, .int _]) dX11_cross_67 mlX11_457 okX11_tellWay viX11_tellWay rfl rfl rfl rfl rfl (by decide) (Nat.le_of_ble_eq_true rfl) (tX11_tellWay hW hR hJ1.1.1 hts (pc_le (fog := 0) hI0 hp (by omega)).1 (pc_le (fog := 0) hI0 hp (by omega)).2 (by omega) ((congrFun (hk1 1079 (by omega) (by omega)) p).trans hrow.1) hrow.2 ht eA hv) ?_
    rw [eF]
    have hvg : tick ≤ arr I W H len day (I 1072 7) p 0 tick := sn_ge (pc_le hI hp (by omega)).1 _ _ _ ht rfl
    have hvl : arr I W H len day (I 1072 7) p 0 tick < 96 := sn_last (pc_le hI hp (by omega)).1 _ _ _ ht rfl hv
    refine jx_putI dX11_cross_70 flX11_106 rfl rfl (fun r h => by cases h; rfl) ?_
    refine jx_iconst (v := 0) dX11_cross_73 (by decide) ?_
    refine jx_istore dX11_cross_74 (by decide) ?_
    have key : ∀ k, k ≤ (arr I W H len day (I 1072 7) p 0 tick - tick + 1) → jWP w l mX11_cross 6 0 0 (fun v t => ∃ r, v = some (.int r) ∧ (fun r t => r = aI (arr I W H len day (I 1072 7) p 0 tick) ∧ ∃ J, t = (n, shE, J, L, R) ∧ eqs (if arr I W H len day (I 1072 7) p 0 tick = 1000 then upI I 1069 2 0 else fl (upI (upI I 1069 2 0) 1069 38 (nI (arr I W H len day (I 1072 7) p 0 tick - tick + 1))) 1092 (wyF I W H len day (I 1072 7) p tick) (arr I W H len day (I 1072 7) p 0 tick - tick + 1)) J) r t) (fun _ _ => False) 76 [(0, .ref 1069), (1, .int (nI p)), (2, .int (nI day)), (3, .int (nI tick)), (4, .int (aI (arr I W H len day (I 1072 7) p 0 tick))), (5, .int (nI k))] [] (n, shE, fl (upI (fl J1 1093 (wyF I W H len day (I 1072 7) p tick) (arr I W H len day (I 1072 7) p 0 tick - tick + 1)) 1069 38 (nI (arr I W H len day (I 1072 7) p 0 tick - tick + 1))) 1092 (wyF I W H len day (I 1072 7) p tick) k, L, R) := by
      refine jdown _ (fun k hk ih => ?_)
      refine jx_iload dX11_cross_76 rfl ?_
      refine jx_aload_n dX11_cross_78 rfl ?_
      refine jx_getIE dX11_cross_79 flX11_106 rfl rfl ((fl_ne (by decide)).trans upI_s) ?_
      refine jx_icmpN_ge (a := k) (b := ((arr I W H len day (I 1072 7) p 0 tick - tick + 1))) 105 dX11_cross_82 (by decide) (by omega) (by omega) (fun h82 => ?_) (fun h82 => ?_)
      · refine jx_iload dX11_cross_105 rfl ?_
        refine jx_iret dX11_cross_107 rfl ?_
        have hkN : k = (arr I W H len day (I 1072 7) p 0 tick - tick + 1) := by omega
        subst hkN
        refine ⟨_, rfl, rfl, _, rfl, ?_⟩
        rw [if_neg hv]
        exact eqs_f2 (eqs_u2 (eqs_fs he1 (scrA (by decide) (by decide))) _ _ _) _ _ _
      · refine jx_aload_n dX11_cross_85 rfl ?_
        refine jx_getR dX11_cross_86 flX11_100 rfl rfl (hR _ _ _ rfl) ?_
        refine jx_iload dX11_cross_89 rfl ?_
        refine jx_aload_n dX11_cross_91 rfl ?_
        refine jx_getR dX11_cross_92 flX11_103 rfl rfl (hR _ _ _ rfl) ?_
        refine jx_iload dX11_cross_95 rfl ?_
        refine jx_ialdE (k) dX11_cross_97 rfl (rfl) (by omega) (by omega) ((fl_ne (by decide)).trans ((upI_nea' (by decide)).trans (fl_in h82))) ?_
        refine jx_iastN (k) dX11_cross_98 rfl (rfl) (by omega) (by omega) ?_
        refine jx_iinc dX11_cross_99 rfl (v := nI (k + 1)) (nI_1 _) (by decide) ?_
        refine jx_goto 76 dX11_cross_102 (by decide) ?_
        rw [fl_s (upI (fl J1 1093 (wyF I W H len day (I 1072 7) p tick) (arr I W H len day (I 1072 7) p 0 tick - tick + 1)) 1069 38 (nI (arr I W H len day (I 1072 7) p 0 tick - tick + 1))) 1092 (wyF I W H len day (I 1072 7) p tick) k]
        exact jx_ls (by exact ⟨rfl, rfl, rfl, rfl, rfl, rfl, trivial⟩) (ih h82)
    have k0 := key 0 (by omega)
    rw [fl_0] at k0
    exact jx_ls (by exact ⟨rfl, rfl, rfl, rfl, rfl, rfl, trivial⟩) k0
  · refine jx_iconst (v := -1) dX11_cross_61 (by decide) ?_
    refine jx_iret dX11_cross_62 rfl ?_
    have hv : arr I W H len day (I 1072 7) p 0 tick = 1000 := (aI_m (by omega)).mp h58
    refine ⟨_, rfl, ?_, _, rfl, ?_⟩
    · rw [hv]; rfl
    · rw [if_pos hv]; exact he1
def wayG (I : Nat → Nat → Int32) (i : Int32) : Prop := 0 ≤ (I 1069 38).toInt ∧ -1 ≤ i.toInt ∧ i.toInt < (I 1069 38).toInt
def wayV (I : Nat → Nat → Int32) (i : Int32) : Int32 := if i = -1 then I 1069 38 else I 1092 (cN i)
set_option maxHeartbeats 1000000 in
set_option maxRecDepth 20000 in
theorem tX11_way (hW : jWok w l) (hR : RS R) (i : Int32) (hm : I 1069 38 = -1 ∨ ∃ k, k ≤ 96 ∧ I 1069 38 = nI k) (hg : wayG I i) : jCD w l mX11_way 2 [.ref 1069, .int i] (n, shE, I, L, R) (some (.int (wayV I i))) (n, shE, upI I 1069 2 0, L, R) := by
  refine jCD_of hW (by decide) rfl (Nat.le_of_ble_eq_true rfl) ?_
  obtain ⟨k, hk, ek⟩ : ∃ k, k ≤ 96 ∧ I 1069 38 = nI k := by
    rcases hm with e | e
    · have := hg.1; rw [e] at this; exact absurd this (by decide)
    · exact e
  have hg2 : -1 ≤ i.toInt ∧ i.toInt < k := by have := hg.2; rw [ek, nI_toInt (by omega)] at this; exact this
  have hk1 : 1 ≤ k ∨ k = 0 := by omega
  have e1 : (nI k - 1).toInt = (k : Int) - 1 := pk_sub_toInt (a := k) (b := 1) (by omega) (by omega)
  refine jx_aload_n dX11_way_0 rfl ?_
  refine jx_iconst (v := 0) dX11_way_1 (by decide) ?_
  refine jx_putI dX11_way_2 flX11_187 rfl rfl (fun r h => by cases h; rfl) ?_
  refine jx_aload_n dX11_way_5 rfl ?_
  refine jx_getIE dX11_way_6 flX11_106 rfl rfl ((upI_j (by decide)).trans ek) ?_
  refine jx_iconst (v := -1) dX11_way_9 (by decide) ?_
  refine jx_icmp_eq 31 dX11_way_10 (by decide) (fun h10 => ?_) (fun h10 => ?_)
  · exfalso
    first | (have e2 := congrArg Int32.toInt h10; rw [nI_toInt (by omega), show (-1 : Int32).toInt = -1 from by decide] at e2; omega) | (have h3 := of_decide_eq_false h28; rw [e1] at h3; omega)
  · refine jx_iload_n dX11_way_13 rfl ?_
    refine jx_i2l dX11_way_14 ?_
    refine jx_ldc2 dX11_way_15 ctX11_460 ?_
    refine jx_aload_n dX11_way_18 rfl ?_
    refine jx_getIE dX11_way_19 flX11_106 rfl rfl ((upI_j (by decide)).trans ek) ?_
    refine jx_iconst (v := 1) dX11_way_22 (by decide) ?_
    refine jx_isub dX11_way_23 ?_
    refine jx_i2l dX11_way_24 ?_
    refine jx_Si (as := [.long _, .long _, .long _]) dX11_way_25 mlX11_190 okX11_isIn stX11_isIn rfl rfl (by decide) (Nat.le_of_ble_eq_true rfl) (tX11_isInC2 hW (-1) (by decide) _) ?_
    refine jx_ifB_ne 37 dX11_way_28 (by decide) (fun h28 => ?_) (fun h28 => ?_)
    · refine jx_iload_n dX11_way_37 rfl ?_
      refine jx_iconst (v := -1) dX11_way_38 (by decide) ?_
      refine jx_icmp_ne 49 dX11_way_39 (by decide) (fun h39 => ?_) (fun h39 => ?_)
      · have h5 : 0 ≤ i.toInt := by
          have : i.toInt ≠ -1 := fun q => h39 (Int32.toInt_inj.mp q)
          omega
        have h6 := cN_cast h5
        have hic : i = nI (cN i) := nI_cN h5
        refine jx_aload_n dX11_way_49 rfl ?_
        refine jx_getR dX11_way_50 flX11_100 rfl rfl (hR _ _ _ rfl) ?_
        refine jx_iload_n dX11_way_53 rfl ?_
        refine jx_ialdN (cN i) dX11_way_54 rfl (hic) (by omega) (by omega) ?_
        refine jx_iret dX11_way_55 rfl ?_
        refine ⟨?_, rfl⟩
        unfold wayV
        first | (rw [if_pos h39, ek]; done) | (rw [if_neg h39]; rfl)
      · refine jx_aload_n dX11_way_42 rfl ?_
        refine jx_getIE dX11_way_43 flX11_106 rfl rfl ((upI_j (by decide)).trans ek) ?_
        refine jx_goto 55 dX11_way_46 (by decide) ?_
        refine jx_iret dX11_way_55 rfl ?_
        refine ⟨?_, rfl⟩
        unfold wayV
        first | (rw [if_pos h39, ek]; done) | (rw [if_neg h39]; rfl)
    · exfalso
      first | (have e2 := congrArg Int32.toInt h10; rw [nI_toInt (by omega), show (-1 : Int32).toInt = -1 from by decide] at e2; omega) | (have h3 := of_decide_eq_false h28; rw [e1] at h3; omega)
set_option maxHeartbeats 1000000 in
set_option maxRecDepth 20000 in
theorem tX11_wayF (hW : jWok w l) (hR : RS R) (i : Int32) (hm : I 1069 38 = -1 ∨ ∃ k, k ≤ 96 ∧ I 1069 38 = nI k) (hg : ¬ wayG I i) : jCD w l mX11_way 2 [.ref 1069, .int i] (n, shE, I, L, R) (some (.int 0)) (n, shE, upI I 1069 2 1, L, R) := by
  refine jCD_of hW (by decide) rfl (Nat.le_of_ble_eq_true rfl) ?_
  refine jx_aload_n dX11_way_0 rfl ?_
  refine jx_iconst (v := 0) dX11_way_1 (by decide) ?_
  refine jx_putI dX11_way_2 flX11_187 rfl rfl (fun r h => by cases h; rfl) ?_
  refine jx_aload_n dX11_way_5 rfl ?_
  refine jx_getIE dX11_way_6 flX11_106 rfl rfl ((upI_j (by decide))) ?_
  refine jx_iconst (v := -1) dX11_way_9 (by decide) ?_
  refine jx_icmp_eq 31 dX11_way_10 (by decide) (fun h10 => ?_) (fun h10 => ?_)
  · refine jx_aload_n dX11_way_31 rfl ?_
    refine jx_iconst (v := 1) dX11_way_32 (by decide) ?_
    refine jx_Vi (as := [.int _]) dX11_way_33 mlX11_351 okX11_fail viX11_fail rfl rfl rfl rfl rfl (by decide) (Nat.le_of_ble_eq_true rfl) (tX11_fail hW _) ?_
    refine jx_iret dX11_way_36 rfl ?_
    exact ⟨rfl, by rw [up_up]⟩
  · refine jx_iload_n dX11_way_13 rfl ?_
    refine jx_i2l dX11_way_14 ?_
    refine jx_ldc2 dX11_way_15 ctX11_460 ?_
    refine jx_aload_n dX11_way_18 rfl ?_
    refine jx_getIE dX11_way_19 flX11_106 rfl rfl ((upI_j (by decide))) ?_
    refine jx_iconst (v := 1) dX11_way_22 (by decide) ?_
    refine jx_isub dX11_way_23 ?_
    refine jx_i2l dX11_way_24 ?_
    refine jx_Si (as := [.long _, .long _, .long _]) dX11_way_25 mlX11_190 okX11_isIn stX11_isIn rfl rfl (by decide) (Nat.le_of_ble_eq_true rfl) (tX11_isInC2 hW (-1) (by decide) _) ?_
    refine jx_ifB_ne 37 dX11_way_28 (by decide) (fun h28 => ?_) (fun h28 => ?_)
    · exfalso
      rcases hm with e | ⟨k, hk, ek⟩
      · exact h10 e
      · have h3 := of_decide_eq_true h28
        have e1 : (nI k - 1).toInt = (k : Int) - 1 := pk_sub_toInt (a := k) (b := 1) (by omega) (by omega)
        rw [ek, e1] at h3
        refine hg ⟨?_, h3.1, ?_⟩ <;> rw [ek, nI_toInt (by omega)] <;> omega
    · refine jx_aload_n dX11_way_31 rfl ?_
      refine jx_iconst (v := 1) dX11_way_32 (by decide) ?_
      refine jx_Vi (as := [.int _]) dX11_way_33 mlX11_351 okX11_fail viX11_fail rfl rfl rfl rfl rfl (by decide) (Nat.le_of_ble_eq_true rfl) (tX11_fail hW _) ?_
      refine jx_iret dX11_way_36 rfl ?_
      exact ⟨rfl, by rw [up_up]⟩
end RI2
