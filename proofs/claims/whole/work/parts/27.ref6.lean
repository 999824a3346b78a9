/-! THE REFERENCE: a party's table, and what is asked of cells, water, parties -/
theorem ltQ_nI {p n : Nat} (h : p < n) (hn : n < 2 ^ 31) : ltQ (nI p) n = true := by
  unfold ltQ; rw [nI_toInt (by omega)]; apply decide_eq_true; omega
theorem ltQ_of {c : Int32} {n : Nat} (h : ltQ c n = true) : ∃ p, p < n ∧ c = nI p := by
  unfold ltQ at h
  obtain ⟨h1, h2⟩ := of_decide_eq_true h
  refine ⟨cN c, ?_, nI_cN h1⟩
  have := cN_cast h1
  omega
theorem dayQ_nI {d : Nat} (h : d ≤ 40) : dayQ (nI d) = true := by
  unfold dayQ; rw [nI_toInt (by omega)]; apply decide_eq_true; omega
theorem tickQ_nI {t : Nat} (h : t < 96) : tickQ (nI t) = true := by
  unfold tickQ; rw [nI_toInt (by omega)]; apply decide_eq_true; omega
theorem dayQ_of {c : Int32} (h : dayQ c = true) : ∃ d, d ≤ 40 ∧ c = nI d := by
  unfold dayQ at h
  obtain ⟨h1, h2⟩ := of_decide_eq_true h
  refine ⟨cN c, ?_, nI_cN h1⟩
  have := cN_cast h1
  omega
theorem tickQ_of {c : Int32} (h : tickQ c = true) : ∃ t, t < 96 ∧ c = nI t := by
  unfold tickQ at h
  obtain ⟨h1, h2⟩ := of_decide_eq_true h
  refine ⟨cN c, ?_, nI_cN h1⟩
  have := cN_cast h1
  omega
def pcOf (I : Nat → Nat → Int32) (p fog : Nat) : Nat := paceOf (cN (I 1076 p)) (cN (I 1077 p)) fog
def mP (I : Nat → Nat → Int32) (W H len day : Nat) (wind : Int32) (p : Nat) : Nat → Nat → Bool := mK I W H len day wind (cN (I 1076 p)) (cN (I 1078 p))
/-- when a party comes over, 1000 if it does not -/
def arr (I : Nat → Nat → Int32) (W H len day : Nat) (wind : Int32) (p fog tick : Nat) : Nat := sn W H (pcOf I p fog) (mP I W H len day wind p) (W * cN (I 1079 p)) tick
theorem pcOf_kp {I J : Nat → Nat → Int32} (h : kp I J) (p fog : Nat) : pcOf J p fog = pcOf I p fog := by
  unfold pcOf; rw [h 1076 (by omega) (by omega), h 1077 (by omega) (by omega)]
theorem mP_kp {I J : Nat → Nat → Int32} (h : kp I J) (W H len day : Nat) (wind : Int32) (p : Nat) : mP J W H len day wind p = mP I W H len day wind p := by
  unfold mP; rw [mK_kp h, h 1076 (by omega) (by omega), h 1078 (by omega) (by omega)]
theorem arr_kp {I J : Nat → Nat → Int32} (h : kp I J) (W H len day : Nat) (wind : Int32) (p fog tick : Nat) : arr J W H len day wind p fog tick = arr I W H len day wind p fog tick := by
  unfold arr; rw [pcOf_kp h, mP_kp h, h 1079 (by omega) (by omega)]
theorem arr_le (I : Nat → Nat → Int32) (W H len day : Nat) (wind : Int32) (p fog tick : Nat) : arr I W H len day wind p fog tick ≤ 1000 := sn_le _ _
theorem pc_le {I : Nat → Nat → Int32} {W H np len : Nat} (hI : RI I W H np len) {p fog : Nat} (hp : p < np) (hf : fog ≤ 3) : 1 ≤ pcOf I p fog ∧ pcOf I p fog ≤ 7 := by
  have h := (hI.2.2.2.2.2.1 p hp).2.1
  unfold pcOf paceOf
  split <;> omega
def k0 (I : Nat → Nat → Int32) : kp I (upI I 1069 2 0) := kp_u (kp_r I) (by omega)
theorem k1 (I : Nat → Nat → Int32) (v : Int32) : kp I (upI I 1069 2 v) := kp_u (kp_r I) (by omega)
theorem up_up {I : Nat → Nat → Int32} {a k : Nat} {u v : Int32} : upI (upI I a k u) a k v = upI I a k v := by
  funext b j; unfold upI; by_cases e : b = a ∧ j = k <;> simp [e]
theorem aI_none : aI 1000 = -1 := rfl
theorem aI_m {v : Nat} (h : v < 2 ^ 31) : aI v = -1 ↔ v = 1000 := by
  unfold aI
  by_cases e : v = 1000
  · simp [e]
  · rw [if_neg e]
    refine ⟨fun q => ?_, fun q => absurd q e⟩
    have q2 := congrArg Int32.toInt q
    rw [nI_toInt h, show (-1 : Int32).toInt = -1 from by decide] at q2
    omega
theorem aI_v {v : Nat} (h : ¬ v = 1000) : aI v = nI v := if_neg h
section RF
variable {w : jWD} {l : Launch} {n : Nat} {I J : Nat → Nat → Int32} {L : Nat → Nat → Int64} {R : Nat → Nat → Option Nat}
theorem tX11_isCellT (hW : jWok w l) (hR : RS R) {W H c : Nat} (hT : MT I W H) (hc : c < W * H) : jCD w l mX11_isCell 2 [.ref 1069, .int (nI c)] (n, shE, I, L, R) (some (.int (jb true))) (n, shE, I, L, R) := by
  have := tX11_isCell (n := n) (L := L) hW hR hT (nI c)
  have hz := hT.wh
  rw [ltQ_nI hc (by omega)] at this
  exact this
theorem tX11_isPartyT (hW : jWok w l) (hR : RS R) {p np : Nat} (hp : I 1072 10 = nI np) (hp6 : np ≤ 6) (hc : p < np) : jCD w l mX11_isParty 2 [.ref 1069, .int (nI p)] (n, shE, I, L, R) (some (.int (jb true))) (n, shE, I, L, R) := by
  have := tX11_isParty (n := n) (L := L) hW hR hp hp6 (nI p)
  rw [ltQ_nI hc (by omega)] at this
  exact this
theorem tX11_isDayT (hW : jWok w l) {d : Nat} (hd : d ≤ 40) : jCD w l mX11_isDay 2 [.int (nI d)] (n, shE, I, L, R) (some (.int (jb true))) (n, shE, I, L, R) := by
  have := tX11_isDay (n := n) (I := I) (L := L) (R := R) hW (nI d)
  rw [dayQ_nI hd] at this
  exact this
theorem tX11_isTickT (hW : jWok w l) {d : Nat} (hd : d < 96) : jCD w l mX11_isTick 2 [.int (nI d)] (n, shE, I, L, R) (some (.int (jb true))) (n, shE, I, L, R) := by
  have := tX11_isTick (n := n) (I := I) (L := L) (R := R) hW (nI d)
  rw [tickQ_nI hd] at this
  exact this

set_option maxHeartbeats 1000000 in
set_option maxRecDepth 20000 in
theorem tX11_shoreOf (hW : jWok w l) (hR : RS R) {W H : Nat} (hT : MT I W H) {p r : Nat} (hp : p < 12) (hr : I 1079 p = nI r)  : jCD w l mX11_shoreOf 1 [.ref 1069, .int (nI p)] (n, shE, I, L, R) (some (.int (nI (W * r)))) (n, shE, I, L, R) := by
  refine jCD_of hW (by decide) rfl (Nat.le_of_ble_eq_true rfl) ?_
  refine jx_aload_n dX11_shoreOf_0 rfl ?_
  refine jx_getR dX11_shoreOf_1 flX11_34 rfl rfl (hR _ _ _ rfl) ?_
  refine jx_iconst (v := 0) dX11_shoreOf_4 (by decide) ?_
  refine jx_ialdE (0) dX11_shoreOf_5 rfl (rfl) (by omega) (by omega) (hT.1) ?_
  refine jx_aload_n dX11_shoreOf_6 rfl ?_
  refine jx_getR dX11_shoreOf_7 flX11_56 rfl rfl (hR _ _ _ rfl) ?_
  refine jx_iload_n dX11_shoreOf_10 rfl ?_
  refine jx_ialdE (p) dX11_shoreOf_11 rfl (rfl) (by omega) (by omega) (hr) ?_
  refine jx_imulE (z := nI (W * r)) dX11_shoreOf_12 (pk_mul W r) ?_
  refine jx_iret dX11_shoreOf_13 rfl ?_
  exact ⟨rfl, rfl⟩
set_option maxHeartbeats 1000000 in
set_option maxRecDepth 20000 in
theorem tX11_arrives (hW : jWok w l) (hR : RS R) {W H : Nat} (hT : MT I W H) {p r tick v : Nat} (hp : p < 12) (hr : I 1079 p = nI r) (hrH : r < H) (ht : tick < 96) (hv : I 1091 (96 * (W * r) + tick) = nI v) (hv1 : v ≤ 1000)  : jCD w l mX11_arrives 2 [.ref 1069, .int (nI p), .int (nI tick)] (n, shE, I, L, R) (some (.int (aI v))) (n, shE, I, L, R) := by
  refine jCD_of hW (by decide) rfl (Nat.le_of_ble_eq_true rfl) ?_
  have hz := hT.wh
  have hw3 := hT.2.2.1
  have hw9 := hT.2.2.2.1
  have hh1 := hT.2.2.2.2.1
  have hh7 := hT.2.2.2.2.2
  have hwr : W * r < W * H := Nat.mul_lt_mul_of_pos_left hrH (by omega)
  refine jx_aload_n dX11_arrives_0 rfl ?_
  refine jx_getR dX11_arrives_1 flX11_97 rfl rfl (hR _ _ _ rfl) ?_
  refine jx_bipush (v := 96) dX11_arrives_4 (by decide) ?_
  refine jx_aload_n dX11_arrives_6 rfl ?_
  refine jx_iload_n dX11_arrives_7 rfl ?_
  refine jx_Vi (as := [.int _]) dX11_arrives_8 mlX11_424 okX11_shoreOf viX11_shoreOf rfl rfl rfl rfl rfl (by decide) (Nat.le_of_ble_eq_true rfl) (tX11_shoreOf hW hR hT hp hr) ?_
  refine jx_imulE (z := nI (96 * (W * r))) dX11_arrives_11 (pk_mul 96 (W * r)) ?_
  refine jx_iload_n dX11_arrives_12 rfl ?_
  refine jx_iaddE (z := nI ((96 * (W * r)) + tick)) dX11_arrives_13 (nI_add (96 * (W * r)) tick) ?_
  refine jx_ialdE ((96 * (W * r)) + tick) dX11_arrives_14 rfl (rfl) (by omega) (by omega) (hv) ?_
  refine jx_istore_n dX11_arrives_15 rfl (by decide) ?_
  refine jx_iload_n dX11_arrives_16 rfl ?_
  refine jx_sipush (v := 1000) dX11_arrives_17 (by decide) ?_
  refine jx_icmpN_ne (a := v) (b := 1000) 27 dX11_arrives_20 (by decide) (by omega) (by omega) (fun h20 => ?_) (fun h20 => ?_)
  · refine jx_iload_n dX11_arrives_27 rfl ?_
    refine jx_iret dX11_arrives_28 rfl ?_
    refine ⟨?_, rfl⟩
    unfold aI
    first | rw [if_pos h20] | rw [if_neg h20]
  · refine jx_iconst (v := -1) dX11_arrives_23 (by decide) ?_
    refine jx_goto 28 dX11_arrives_24 (by decide) ?_
    refine jx_iret dX11_arrives_28 rfl ?_
    refine ⟨?_, rfl⟩
    unfold aI
    first | rw [if_pos h20] | rw [if_neg h20]
theorem tX11_arrivesP (hW : jWok w l) (hR : RS R) {W H np len day p fog tick : Nat} {wind : Int32} (hI : RI I W H np len) (he : eqs I J) (hs : TS J W H (pcOf I p fog) (mP I W H len day wind p)) (hp : p < np) (ht : tick < 96) : jCD w l mX11_arrives 2 [.ref 1069, .int (nI p), .int (nI tick)] (n, shE, J, L, R) (some (.int (aI (arr I W H len day wind p fog tick)))) (n, shE, J, L, R) := by
  have hk := eqs_kp he
  have hJ := hI.kp hk
  have hT := hI.1.1
  have hz := hT.wh
  have hw3 := hT.2.2.1
  have hrow := (hI.2.2.2.2.2.1 p hp).2.2.2.1
  have hnp := hI.2.2.2.2.1.2
  have hwr : W * cN (I 1079 p) < W * H := Nat.mul_lt_mul_of_pos_left hrow.2 (by omega)
  exact tX11_arrives hW hR hJ.1.1 (by omega) ((congrFun (hk 1079 (by omega) (by omega)) p).trans hrow.1) hrow.2 ht (hs.2.2 _ _ hwr ht) (arr_le _ _ _ _ _ _ _ _ _)
def eqP (I J : Nat → Nat → Int32) : Prop := ∀ b j : Nat, ¬ (1086 ≤ b ∧ b ≤ 1091) → ¬ (b = 1069 ∧ j = 35) → J b j = I b j
set_option maxHeartbeats 1000000 in
set_option maxRecDepth 20000 in
theorem tX11_tellParty (hW : jWok w l) (hR : RS R) {W H np len p day fog : Nat} (hI : RI I W H np len) (hp : p < np) (hd : day ≤ 40) (hf : fog ≤ 3) (wind : Int32) : jRv w l mX11_tellParty 5 [.ref 1069, .int (nI p), .int (nI day), .int wind, .int (nI fog)] (n, shE, I, L, R) (fun t => ∃ J, t = (n, shE, J, L, R) ∧ eqs I J ∧ TS J W H (pcOf I p fog) (mP I W H len day wind p)) := by
  refine jRv_of hW (by decide) rfl (Nat.le_of_ble_eq_true rfl) ?_
  have hT := hI.1.1
  have hnp := hI.2.2.2.2.1.2
  obtain ⟨hk1, hk2, hk3, hk4, hk5, hk6⟩ := hI.2.2.2.2.2.1 p hp
  refine jx_aload_n dX11_tellParty_0 rfl ?_
  refine jx_iload_n dX11_tellParty_1 rfl ?_
  refine jx_iload_n dX11_tellParty_2 rfl ?_
  refine jx_VRv (as := [.int _, .int _]) dX11_tellParty_3 mlX11_416 okX11_tellDay viX11_tellDay rfl rfl rfl rfl rfl (by decide) (Nat.le_of_ble_eq_true rfl) (tX11_tellDay hW hR hI hd wind) (fun t3 hq3 => ?_)
  obtain ⟨J1, rfl, he1, htd⟩ := hq3
  have hkp := kp_x he1 (by decide)
  have hJ1 := hI.kp hkp
  refine jx_aload_n dX11_tellParty_6 rfl ?_
  refine jx_aload_n dX11_tellParty_7 rfl ?_
  refine jx_getR dX11_tellParty_8 flX11_47 rfl rfl (hR _ _ _ rfl) ?_
  refine jx_iload_n dX11_tellParty_11 rfl ?_
  refine jx_ialdE (p) dX11_tellParty_12 rfl (rfl) (by omega) (by omega) ((he1 1076 p (by decide)).trans hk1.1) ?_
  refine jx_aload_n dX11_tellParty_13 rfl ?_
  refine jx_getR dX11_tellParty_14 flX11_50 rfl rfl (hR _ _ _ rfl) ?_
  refine jx_iload_n dX11_tellParty_17 rfl ?_
  refine jx_ialdE (p) dX11_tellParty_18 rfl (rfl) (by omega) (by omega) ((he1 1077 p (by decide)).trans hk2.1) ?_
  refine jx_aload_n dX11_tellParty_19 rfl ?_
  refine jx_getR dX11_tellParty_20 flX11_53 rfl rfl (hR _ _ _ rfl) ?_
  refine jx_iload_n dX11_tellParty_23 rfl ?_
  refine jx_ialdE (p) dX11_tellParty_24 rfl (rfl) (by omega) (by omega) ((he1 1078 p (by decide)).trans hk3.1) ?_
  refine jx_iload dX11_tellParty_25 rfl ?_
  refine jx_VRv (as := [.int _, .int _, .int _, .int _]) dX11_tellParty_27 mlX11_420 okX11_tellSoon viX11_tellSoon rfl rfl rfl rfl rfl (by decide) (Nat.le_of_ble_eq_true rfl) (tX11_tellSoon hW hR hJ1.1.1 (hg := hgt I) (wh := wht I) (q := qq I W H day) (lev := fun t => wlev (I 1082) len day t wind) hk1.2 hk2.2 hk3.2 hf rfl (fun c hc => ⟨by rw [hkp 1074 (by omega) (by omega)]; exact (hI.2.1 c hc).2.1, (hI.2.1 c hc).2.2⟩) (fun c hc => ⟨by rw [hkp 1073 (by omega) (by omega)]; exact (hI.2.1 c hc).1.1, (hI.2.1 c hc).1.2⟩) (fun t ht => ⟨htd.1 t ht, wlev_le _ _ _ _ _⟩) htd.2) (fun t27 hq27 => ?_)
  obtain ⟨J2, rfl, he2, hts⟩ := hq27
  refine jx_vret dX11_tellParty_30 rfl ?_
  exact ⟨rfl, J2, rfl, eqs_t (eqs_x he1 (by decide) (by decide)) (eqS_s he2), hts⟩
set_option maxHeartbeats 1000000 in
set_option maxRecDepth 20000 in
theorem tX11_tellPartyP (hW : jWok w l) (hR : RS R) {W H np len p day fog : Nat} (hI : RI I W H np len) (hp : p < np) (hd : day ≤ 40) (hf : fog ≤ 3) (wind : Int32) : jRv w l mX11_tellParty 5 [.ref 1069, .int (nI p), .int (nI day), .int wind, .int (nI fog)] (n, shE, I, L, R) (fun t => ∃ J, t = (n, shE, J, L, R) ∧ eqP I J ∧ TS J W H (pcOf I p fog) (mP I W H len day wind p)) := by
  refine jRv_of hW (by decide) rfl (Nat.le_of_ble_eq_true rfl) ?_
  have hT := hI.1.1
  have hnp := hI.2.2.2.2.1.2
  obtain ⟨hk1, hk2, hk3, hk4, hk5, hk6⟩ := hI.2.2.2.2.2.1 p hp
  refine jx_aload_n dX11_tellParty_0 rfl ?_
  refine jx_iload_n dX11_tellParty_1 rfl ?_
  refine jx_iload_n dX11_tellParty_2 rfl ?_
  refine jx_VRv (as := [.int _, .int _]) dX11_tellParty_3 mlX11_416 okX11_tellDay viX11_tellDay rfl rfl rfl rfl rfl (by decide) (Nat.le_of_ble_eq_true rfl) (tX11_tellDay hW hR hI hd wind) (fun t3 hq3 => ?_)
  obtain ⟨J1, rfl, he1, htd⟩ := hq3
  have hkp := kp_x he1 (by decide)
  have hJ1 := hI.kp hkp
  refine jx_aload_n dX11_tellParty_6 rfl ?_
  refine jx_aload_n dX11_tellParty_7 rfl ?_
  refine jx_getR dX11_tellParty_8 flX11_47 rfl rfl (hR _ _ _ rfl) ?_
  refine jx_iload_n dX11_tellParty_11 rfl ?_
  refine jx_ialdE (p) dX11_tellParty_12 rfl (rfl) (by omega) (by omega) ((he1 1076 p (by decide)).trans hk1.1) ?_
  refine jx_aload_n dX11_tellParty_13 rfl ?_
  refine jx_getR dX11_tellParty_14 flX11_50 rfl rfl (hR _ _ _ rfl) ?_
  refine jx_iload_n dX11_tellParty_17 rfl ?_
  refine jx_ialdE (p) dX11_tellParty_18 rfl (rfl) (by omega) (by omega) ((he1 1077 p (by decide)).trans hk2.1) ?_
  refine jx_aload_n dX11_tellParty_19 rfl ?_
  refine jx_getR dX11_tellParty_20 flX11_53 rfl rfl (hR _ _ _ rfl) ?_
  refine jx_iload_n dX11_tellParty_23 rfl ?_
  refine jx_ialdE (p) dX11_tellParty_24 rfl (rfl) (by omega) (by omega) ((he1 1078 p (by decide)).trans hk3.1) ?_
  refine jx_iload dX11_tellParty_25 rfl ?_
  refine jx_VRv (as := [.int _, .int _, .int _, .int _]) dX11_tellParty_27 mlX11_420 okX11_tellSoon viX11_tellSoon rfl rfl rfl rfl rfl (by decide) (Nat.le_of_ble_eq_true rfl) (tX11_tellSoon hW hR hJ1.1.1 (hg := hgt I) (wh := wht I) (q := qq I W H day) (lev := fun t => wlev (I 1082) len day t wind) hk1.2 hk2.2 hk3.2 hf rfl (fun c hc => ⟨by rw [hkp 1074 (by omega) (by omega)]; exact (hI.2.1 c hc).2.1, (hI.2.1 c hc).2.2⟩) (fun c hc => ⟨by rw [hkp 1073 (by omega) (by omega)]; exact (hI.2.1 c hc).1.1, (hI.2.1 c hc).1.2⟩) (fun t ht => ⟨htd.1 t ht, wlev_le _ _ _ _ _⟩) htd.2) (fun t27 hq27 => ?_)
  obtain ⟨J2, rfl, he2, hts⟩ := hq27
  refine jx_vret dX11_tellParty_30 rfl ?_
  exact ⟨rfl, J2, rfl, fun b j h1 h2 => (he2 b j (by omega) (by omega) h2).trans (he1 b j (by simp; omega)), hts⟩
set_option maxHeartbeats 1000000 in
set_option maxRecDepth 20000 in
theorem tX11_quickF (hW : jWok w l) (hR : RS R) {W H np len : Nat} (hI : RI I W H np len) (c day : Int32) (hbad : ¬ (ltQ c (W * H) = true ∧ dayQ day = true)) : jCD w l mX11_quick 3 [.ref 1069, .int c, .int day] (n, shE, I, L, R) (some (.int (jb false))) (n, shE, upI I 1069 2 1, L, R) := by
  refine jCD_of hW (by decide) rfl (Nat.le_of_ble_eq_true rfl) ?_
  have hI0 := hI.kp (k0 I)
  refine jx_aload_n dX11_quick_0 rfl ?_
  refine jx_iconst (v := 0) dX11_quick_1 (by decide) ?_
  refine jx_putI dX11_quick_2 flX11_187 rfl rfl (fun r h => by cases h; rfl) ?_
  refine jx_aload_n dX11_quick_5 rfl ?_
  refine jx_iload_n dX11_quick_6 rfl ?_
  refine jx_Vi (as := [.int _]) dX11_quick_7 mlX11_435 okX11_isCell viX11_isCell rfl rfl rfl rfl rfl (by decide) (Nat.le_of_ble_eq_true rfl) (tX11_isCell hW hR hI0.1.1 _) ?_
  refine jx_ifB_eq 20 dX11_quick_10 (by decide) (fun h10 => ?_) (fun h10 => ?_)
  · refine jx_aload_n dX11_quick_20 rfl ?_
    refine jx_Vi (as := []) dX11_quick_21 mlX11_441 okX11_refuses viX11_refuses rfl rfl rfl rfl rfl (by decide) (Nat.le_of_ble_eq_true rfl) (tX11_refuses hW) ?_
    refine jx_zret dX11_quick_24 rfl ?_ ?_
    · first | exact Or.inl rfl | exact Or.inr rfl | exact jb_or _
    exact ⟨rfl, by rw [up_up]⟩
  · refine jx_iload_n dX11_quick_13 rfl ?_
    refine jx_Si (as := [.int _]) dX11_quick_14 mlX11_438 okX11_isDay stX11_isDay rfl rfl (by decide) (Nat.le_of_ble_eq_true rfl) (tX11_isDay hW _) ?_
    refine jx_ifB_ne 25 dX11_quick_17 (by decide) (fun h17 => ?_) (fun h17 => ?_)
    · exact absurd ⟨h10, h17⟩ hbad
    · refine jx_aload_n dX11_quick_20 rfl ?_
      refine jx_Vi (as := []) dX11_quick_21 mlX11_441 okX11_refuses viX11_refuses rfl rfl rfl rfl rfl (by decide) (Nat.le_of_ble_eq_true rfl) (tX11_refuses hW) ?_
      refine jx_zret dX11_quick_24 rfl ?_ ?_
      · first | exact Or.inl rfl | exact Or.inr rfl | exact jb_or _
      exact ⟨rfl, by rw [up_up]⟩
set_option maxHeartbeats 1000000 in
set_option maxRecDepth 20000 in
theorem tX11_quick (hW : jWok w l) (hR : RS R) {W H np len : Nat} (hI : RI I W H np len) {c day : Nat} (hc : c < W * H) (hd : day ≤ 40) : jRi w l mX11_quick 3 [.ref 1069, .int (nI c), .int (nI day)] (n, shE, I, L, R) (fun r t => r = jb (qq I W H day c) ∧ ∃ J, t = (n, shE, J, L, R) ∧ eqs (upI I 1069 2 0) J) := by
  refine jRi_of hW (by decide) rfl (Nat.le_of_ble_eq_true rfl) ?_
  have hI0 := hI.kp (k0 I)
  have hT := hI0.1.1
  have hz := hT.wh
  have hw3 := hT.2.2.1
  have hw9 := hT.2.2.2.1
  have hh1 := hT.2.2.2.2.1
  have hh7 := hT.2.2.2.2.2
  have hnp := hI0.2.2.2.2.1.2
  refine jx_aload_n dX11_quick_0 rfl ?_
  refine jx_iconst (v := 0) dX11_quick_1 (by decide) ?_
  refine jx_putI dX11_quick_2 flX11_187 rfl rfl (fun r h => by cases h; rfl) ?_
  refine jx_aload_n dX11_quick_5 rfl ?_
  refine jx_iload_n dX11_quick_6 rfl ?_
  refine jx_Vi (as := [.int _]) dX11_quick_7 mlX11_435 okX11_isCell viX11_isCell rfl rfl rfl rfl rfl (by decide) (Nat.le_of_ble_eq_true rfl) (tX11_isCellT hW hR hI0.1.1 hc) ?_
  refine jx_ifB_eq 20 dX11_quick_10 (by decide) (fun h10 => by cases h10) (fun h10 => ?_)
  refine jx_iload_n dX11_quick_13 rfl ?_
  refine jx_Si (as := [.int _]) dX11_quick_14 mlX11_438 okX11_isDay stX11_isDay rfl rfl (by decide) (Nat.le_of_ble_eq_true rfl) (tX11_isDayT hW hd) ?_
  refine jx_ifB_ne 25 dX11_quick_17 (by decide) (fun h17 => ?_) (fun h17 => by cases h17)
  refine jx_aload_n dX11_quick_25 rfl ?_
  refine jx_iload_n dX11_quick_26 rfl ?_
  refine jx_aload_n dX11_quick_27 rfl ?_
  refine jx_getR dX11_quick_28 flX11_34 rfl rfl (hR _ _ _ rfl) ?_
  refine jx_iconst (v := 5) dX11_quick_31 (by decide) ?_
  refine jx_ialdN (5) dX11_quick_32 rfl (rfl) (by omega) (by omega) ?_
  refine jx_aload_n dX11_quick_33 rfl ?_
  refine jx_getR dX11_quick_34 flX11_34 rfl rfl (hR _ _ _ rfl) ?_
  refine jx_bipush (v := 6) dX11_quick_37 (by decide) ?_
  refine jx_ialdN (6) dX11_quick_39 rfl (rfl) (by omega) (by omega) ?_
  refine jx_Vv (as := [.int _, .int _, .int _]) dX11_quick_40 mlX11_386 okX11_tellQuick viX11_tellQuick rfl rfl rfl rfl rfl (by decide) (Nat.le_of_ble_eq_true rfl) (tX11_tellQuick hW hR hI0.1 hd hI0.2.2.1.1.1 hI0.2.2.1.1.2 hI0.2.2.1.2.1 hI0.2.2.1.2.2) ?_
  refine jx_aload_n dX11_quick_43 rfl ?_
  refine jx_getR dX11_quick_44 flX11_91 rfl rfl (hR _ _ _ rfl) ?_
  refine jx_iload_n dX11_quick_47 rfl ?_
  refine jx_zaldN (c) dX11_quick_48 rfl (rfl) (by omega) (by omega) ?_
  refine jx_zret dX11_quick_49 rfl ?_ ?_
  · rw [fl_in hc]; exact jb_or _
  refine ⟨_, rfl, ?_, _, rfl, ?_⟩
  · rw [fl_in hc]; exact congrArg jb (congrFun (qq_kp (k0 I) W H day) c)
  · exact eqs_x (l := [1089]) (fun b j hb => fl_ne (fun q => hb (by rw [q]; decide))) (by decide) (by decide)
set_option maxHeartbeats 1000000 in
set_option maxRecDepth 20000 in
theorem tX11_waterF (hW : jWok w l) (hR : RS R) {W H np len : Nat} (hI : RI I W H np len) (day tick : Int32) (hbad : ¬ (dayQ day = true ∧ tickQ tick = true)) : jCD w l mX11_water 3 [.ref 1069, .int day, .int tick] (n, shE, I, L, R) (some (.int 0)) (n, shE, upI I 1069 2 1, L, R) := by
  refine jCD_of hW (by decide) rfl (Nat.le_of_ble_eq_true rfl) ?_
  have hI0 := hI.kp (k0 I)
  refine jx_aload_n dX11_water_0 rfl ?_
  refine jx_iconst (v := 0) dX11_water_1 (by decide) ?_
  refine jx_putI dX11_water_2 flX11_187 rfl rfl (fun r h => by cases h; rfl) ?_
  refine jx_iload_n dX11_water_5 rfl ?_
  refine jx_Si (as := [.int _]) dX11_water_6 mlX11_438 okX11_isDay stX11_isDay rfl rfl (by decide) (Nat.le_of_ble_eq_true rfl) (tX11_isDay hW _) ?_
  refine jx_ifB_eq 35 dX11_water_9 (by decide) (fun h9 => ?_) (fun h9 => ?_)
  · refine jx_aload_n dX11_water_35 rfl ?_
    refine jx_iconst (v := 1) dX11_water_36 (by decide) ?_
    refine jx_Vi (as := [.int _]) dX11_water_37 mlX11_351 okX11_fail viX11_fail rfl rfl rfl rfl rfl (by decide) (Nat.le_of_ble_eq_true rfl) (tX11_fail hW _) ?_
    refine jx_iret dX11_water_40 rfl ?_
    exact ⟨rfl, by rw [up_up]⟩
  · refine jx_iload_n dX11_water_12 rfl ?_
    refine jx_Si (as := [.int _]) dX11_water_13 mlX11_445 okX11_isTick stX11_isTick rfl rfl (by decide) (Nat.le_of_ble_eq_true rfl) (tX11_isTick hW _) ?_
    refine jx_ifB_eq 35 dX11_water_16 (by decide) (fun h16 => ?_) (fun h16 => ?_)
    · refine jx_aload_n dX11_water_35 rfl ?_
      refine jx_iconst (v := 1) dX11_water_36 (by decide) ?_
      refine jx_Vi (as := [.int _]) dX11_water_37 mlX11_351 okX11_fail viX11_fail rfl rfl rfl rfl rfl (by decide) (Nat.le_of_ble_eq_true rfl) (tX11_fail hW _) ?_
      refine jx_iret dX11_water_40 rfl ?_
      exact ⟨rfl, by rw [up_up]⟩
    · exact absurd ⟨h9, h16⟩ hbad
set_option maxHeartbeats 1000000 in
set_option maxRecDepth 20000 in
theorem tX11_water (hW : jWok w l) (hR : RS R) {W H np len : Nat} (hI : RI I W H np len) {day tick : Nat} (hd : day ≤ 40) (ht : tick < 96) : jRi w l mX11_water 3 [.ref 1069, .int (nI day), .int (nI tick)] (n, shE, I, L, R) (fun r t => r = nI (wlev (I 1082) len day tick (I 1072 7)) ∧ ∃ J, t = (n, shE, J, L, R) ∧ eqs (upI I 1069 2 0) J) := by
  refine jRi_of hW (by decide) rfl (Nat.le_of_ble_eq_true rfl) ?_
  have hI0 := hI.kp (k0 I)
  have hT := hI0.1.1
  have hz := hT.wh
  have hw3 := hT.2.2.1
  have hw9 := hT.2.2.2.1
  have hh1 := hT.2.2.2.2.1
  have hh7 := hT.2.2.2.2.2
  have hnp := hI0.2.2.2.2.1.2
  refine jx_aload_n dX11_water_0 rfl ?_
  refine jx_iconst (v := 0) dX11_water_1 (by decide) ?_
  refine jx_putI dX11_water_2 flX11_187 rfl rfl (fun r h => by cases h; rfl) ?_
  refine jx_iload_n dX11_water_5 rfl ?_
  refine jx_Si (as := [.int _]) dX11_water_6 mlX11_438 okX11_isDay stX11_isDay rfl rfl (by decide) (Nat.le_of_ble_eq_true rfl) (tX11_isDayT hW hd) ?_
  refine jx_ifB_eq 35 dX11_water_9 (by decide) (fun h9 => by cases h9) (fun h9 => ?_)
  refine jx_iload_n dX11_water_12 rfl ?_
  refine jx_Si (as := [.int _]) dX11_water_13 mlX11_445 okX11_isTick stX11_isTick rfl rfl (by decide) (Nat.le_of_ble_eq_true rfl) (tX11_isTickT hW ht) ?_
  refine jx_ifB_eq 35 dX11_water_16 (by decide) (fun h16 => by cases h16) (fun h16 => ?_)
  refine jx_aload_n dX11_water_19 rfl ?_
  refine jx_iload_n dX11_water_20 rfl ?_
  refine jx_iload_n dX11_water_21 rfl ?_
  refine jx_aload_n dX11_water_22 rfl ?_
  refine jx_getR dX11_water_23 flX11_34 rfl rfl (hR _ _ _ rfl) ?_
  refine jx_bipush (v := 7) dX11_water_26 (by decide) ?_
  refine jx_ialdN (7) dX11_water_28 rfl (rfl) (by omega) (by omega) ?_
  refine jx_VRi (as := [.int _, .int _, .int _]) dX11_water_29 mlX11_390 okX11_waterOf viX11_waterOf rfl rfl rfl rfl rfl (by decide) (Nat.le_of_ble_eq_true rfl) (tX11_waterOf hW hR hI0.2.2.2.2.2.2.1.1 hI0.2.2.2.2.2.2.1.2.1 hI0.2.2.2.2.2.2.1.2.2.1 hI0.2.2.2.2.2.2.1.2.2.2 hd ht _) (fun x29 t29 hq29 => ?_)
  obtain ⟨rfl, J1, rfl, he1⟩ := hq29
  refine jx_goto 40 dX11_water_32 (by decide) ?_
  refine jx_iret dX11_water_40 rfl ?_
  refine ⟨_, rfl, ?_, _, rfl, eqs_x he1 (by decide) (by decide)⟩
  rw [k0 I 1082 (by omega) (by omega), k0 I 1072 (by omega) (by omega)]
set_option maxHeartbeats 1000000 in
set_option maxRecDepth 20000 in
theorem tX11_mayF (hW : jWok w l) (hR : RS R) {W H np len : Nat} (hI : RI I W H np len) (p c day tick : Int32) (hbad : ¬ (ltQ p np = true ∧ ltQ c (W * H) = true ∧ dayQ day = true ∧ tickQ tick = true)) : jCD w l mX11_may 3 [.ref 1069, .int p, .int c, .int day, .int tick] (n, shE, I, L, R) (some (.int (jb false))) (n, shE, upI I 1069 2 1, L, R) := by
  refine jCD_of hW (by decide) rfl (Nat.le_of_ble_eq_true rfl) ?_
  have hI0 := hI.kp (k0 I)
  refine jx_aload_n dX11_may_0 rfl ?_
  refine jx_iconst (v := 0) dX11_may_1 (by decide) ?_
  refine jx_putI dX11_may_2 flX11_187 rfl rfl (fun r h => by cases h; rfl) ?_
  refine jx_aload_n dX11_may_5 rfl ?_
  refine jx_iload_n dX11_may_6 rfl ?_
  refine jx_Vi (as := [.int _]) dX11_may_7 mlX11_448 okX11_isParty viX11_isParty rfl rfl rfl rfl rfl (by decide) (Nat.le_of_ble_eq_true rfl) (tX11_isParty hW hR (hI0.2.2.2.2.1.1) hI0.2.2.2.2.1.2 _) ?_
  refine jx_ifB_eq 36 dX11_may_10 (by decide) (fun h10 => ?_) (fun h10 => ?_)
  · refine jx_aload_n dX11_may_36 rfl ?_
    refine jx_Vi (as := []) dX11_may_37 mlX11_441 okX11_refuses viX11_refuses rfl rfl rfl rfl rfl (by decide) (Nat.le_of_ble_eq_true rfl) (tX11_refuses hW) ?_
    refine jx_zret dX11_may_40 rfl ?_ ?_
    · first | exact Or.inl rfl | exact Or.inr rfl | exact jb_or _
    exact ⟨rfl, by rw [up_up]⟩
  · refine jx_aload_n dX11_may_13 rfl ?_
    refine jx_iload_n dX11_may_14 rfl ?_
    refine jx_Vi (as := [.int _]) dX11_may_15 mlX11_435 okX11_isCell viX11_isCell rfl rfl rfl rfl rfl (by decide) (Nat.le_of_ble_eq_true rfl) (tX11_isCell hW hR hI0.1.1 _) ?_
    refine jx_ifB_eq 36 dX11_may_18 (by decide) (fun h18 => ?_) (fun h18 => ?_)
    · refine jx_aload_n dX11_may_36 rfl ?_
      refine jx_Vi (as := []) dX11_may_37 mlX11_441 okX11_refuses viX11_refuses rfl rfl rfl rfl rfl (by decide) (Nat.le_of_ble_eq_true rfl) (tX11_refuses hW) ?_
      refine jx_zret dX11_may_40 rfl ?_ ?_
      · first | exact Or.inl rfl | exact Or.inr rfl | exact jb_or _
      exact ⟨rfl, by rw [up_up]⟩
    · refine jx_iload_n dX11_may_21 rfl ?_
      refine jx_Si (as := [.int _]) dX11_may_22 mlX11_438 okX11_isDay stX11_isDay rfl rfl (by decide) (Nat.le_of_ble_eq_true rfl) (tX11_isDay hW _) ?_
      refine jx_ifB_eq 36 dX11_may_25 (by decide) (fun h25 => ?_) (fun h25 => ?_)
      · refine jx_aload_n dX11_may_36 rfl ?_
        refine jx_Vi (as := []) dX11_may_37 mlX11_441 okX11_refuses viX11_refuses rfl rfl rfl rfl rfl (by decide) (Nat.le_of_ble_eq_true rfl) (tX11_refuses hW) ?_
        refine jx_zret dX11_may_40 rfl ?_ ?_
        · first | exact Or.inl rfl | exact Or.inr rfl | exact jb_or _
        exact ⟨rfl, by rw [up_up]⟩
      · refine jx_iload dX11_may_28 rfl ?_
        refine jx_Si (as := [.int _]) dX11_may_30 mlX11_445 okX11_isTick stX11_isTick rfl rfl (by decide) (Nat.le_of_ble_eq_true rfl) (tX11_isTick hW _) ?_
        refine jx_ifB_ne 41 dX11_may_33 (by decide) (fun h33 => ?_) (fun h33 => ?_)
        · exact absurd ⟨h10, h18, h25, h33⟩ hbad
        · refine jx_aload_n dX11_may_36 rfl ?_
          refine jx_Vi (as := []) dX11_may_37 mlX11_441 okX11_refuses viX11_refuses rfl rfl rfl rfl rfl (by decide) (Nat.le_of_ble_eq_true rfl) (tX11_refuses hW) ?_
          refine jx_zret dX11_may_40 rfl ?_ ?_
          · first | exact Or.inl rfl | exact Or.inr rfl | exact jb_or _
          exact ⟨rfl, by rw [up_up]⟩
set_option maxHeartbeats 1000000 in
set_option maxRecDepth 20000 in
theorem tX11_may (hW : jWok w l) (hR : RS R) {W H np len : Nat} (hI : RI I W H np len) {p c day tick : Nat} (hp : p < np) (hc : c < W * H) (hd : day ≤ 40) (ht : tick < 96) : jRi w l mX11_may 4 [.ref 1069, .int (nI p), .int (nI c), .int (nI day), .int (nI tick)] (n, shE, I, L, R) (fun r t => r = jb (mP I W H len day (I 1072 7) p c tick) ∧ ∃ J, t = (n, shE, J, L, R) ∧ eqs (upI I 1069 2 0) J) := by
  refine jRi_of hW (by decide) rfl (Nat.le_of_ble_eq_true rfl) ?_
  have hI0 := hI.kp (k0 I)
  have hT := hI0.1.1
  have hz := hT.wh
  have hw3 := hT.2.2.1
  have hw9 := hT.2.2.2.1
  have hh1 := hT.2.2.2.2.1
  have hh7 := hT.2.2.2.2.2
  have hnp := hI0.2.2.2.2.1.2
  refine jx_aload_n dX11_may_0 rfl ?_
  refine jx_iconst (v := 0) dX11_may_1 (by decide) ?_
  refine jx_putI dX11_may_2 flX11_187 rfl rfl (fun r h => by cases h; rfl) ?_
  refine jx_aload_n dX11_may_5 rfl ?_
  refine jx_iload_n dX11_may_6 rfl ?_
  refine jx_Vi (as := [.int _]) dX11_may_7 mlX11_448 okX11_isParty viX11_isParty rfl rfl rfl rfl rfl (by decide) (Nat.le_of_ble_eq_true rfl) (tX11_isPartyT hW hR (hI0.2.2.2.2.1.1) hI0.2.2.2.2.1.2 hp) ?_
  refine jx_ifB_eq 36 dX11_may_10 (by decide) (fun h10 => by cases h10) (fun h10 => ?_)
  refine jx_aload_n dX11_may_13 rfl ?_
  refine jx_iload_n dX11_may_14 rfl ?_
  refine jx_Vi (as := [.int _]) dX11_may_15 mlX11_435 okX11_isCell viX11_isCell rfl rfl rfl rfl rfl (by decide) (Nat.le_of_ble_eq_true rfl) (tX11_isCellT hW hR hI0.1.1 hc) ?_
  refine jx_ifB_eq 36 dX11_may_18 (by decide) (fun h18 => by cases h18) (fun h18 => ?_)
  refine jx_iload_n dX11_may_21 rfl ?_
  refine jx_Si (as := [.int _]) dX11_may_22 mlX11_438 okX11_isDay stX11_isDay rfl rfl (by decide) (Nat.le_of_ble_eq_true rfl) (tX11_isDayT hW hd) ?_
  refine jx_ifB_eq 36 dX11_may_25 (by decide) (fun h25 => by cases h25) (fun h25 => ?_)
  refine jx_iload dX11_may_28 rfl ?_
  refine jx_Si (as := [.int _]) dX11_may_30 mlX11_445 okX11_isTick stX11_isTick rfl rfl (by decide) (Nat.le_of_ble_eq_true rfl) (tX11_isTickT hW ht) ?_
  refine jx_ifB_ne 41 dX11_may_33 (by decide) (fun h33 => ?_) (fun h33 => by cases h33)
  refine jx_aload_n dX11_may_41 rfl ?_
  refine jx_iload_n dX11_may_42 rfl ?_
  refine jx_aload_n dX11_may_43 rfl ?_
  refine jx_getR dX11_may_44 flX11_34 rfl rfl (hR _ _ _ rfl) ?_
  refine jx_bipush (v := 7) dX11_may_47 (by decide) ?_
  refine jx_ialdN (7) dX11_may_49 rfl (rfl) (by omega) (by omega) ?_
  refine jx_VRv (as := [.int _, .int _]) dX11_may_50 mlX11_416 okX11_tellDay viX11_tellDay rfl rfl rfl rfl rfl (by decide) (Nat.le_of_ble_eq_true rfl) (tX11_tellDay hW hR hI0 hd _) (fun t50 hq50 => ?_)
  obtain ⟨J1, rfl, he1, htd⟩ := hq50
  have hkp := kp_t (k0 I) (kp_x he1 (by decide))
  have hJ1 := hI.kp hkp
  obtain ⟨hk1, hk2, hk3, hk4, hk5, hk6⟩ := hI.2.2.2.2.2.1 p hp
  refine jx_aload_n dX11_may_53 rfl ?_
  refine jx_aload_n dX11_may_54 rfl ?_
  refine jx_getR dX11_may_55 flX11_47 rfl rfl (hR _ _ _ rfl) ?_
  refine jx_iload_n dX11_may_58 rfl ?_
  refine jx_ialdE (p) dX11_may_59 rfl (rfl) (by omega) (by omega) ((congrFun (hkp 1076 (by omega) (by omega)) p).trans hk1.1) ?_
  refine jx_aload_n dX11_may_60 rfl ?_
  refine jx_getR dX11_may_61 flX11_53 rfl rfl (hR _ _ _ rfl) ?_
  refine jx_iload_n dX11_may_64 rfl ?_
  refine jx_ialdE (p) dX11_may_65 rfl (rfl) (by omega) (by omega) ((congrFun (hkp 1078 (by omega) (by omega)) p).trans hk3.1) ?_
  refine jx_iload_n dX11_may_66 rfl ?_
  refine jx_iload dX11_may_67 rfl ?_
  refine jx_Vi (as := [.int _, .int _, .int _, .int _]) dX11_may_69 mlX11_409 okX11_mayBe viX11_mayBe rfl rfl rfl rfl rfl (by decide) (Nat.le_of_ble_eq_true rfl) (tX11_mayBe hW hR hJ1.1.1 (hgt := hgt I) (wh := wht I) (q := qq I W H day) (lev := wlev (I 1082) len day tick (I 1072 7)) hc ht hk1.2 hk3.2 (by rw [hkp 1074 (by omega) (by omega)]; exact (hI.2.1 c hc).2.1) (hI.2.1 c hc).2.2 (by rw [hkp 1073 (by omega) (by omega)]; exact (hI.2.1 c hc).1.1) (hI.2.1 c hc).1.2 (by rw [htd.1 tick ht, k0 I 1082 (by omega) (by omega), k0 I 1072 (by omega) (by omega)]) (wlev_le _ _ _ _ _) (by rw [htd.2 c hc, qq_kp (k0 I)])) ?_
  refine jx_zret dX11_may_72 rfl ?_ ?_
  · first | exact Or.inl rfl | exact Or.inr rfl | exact jb_or _
  exact ⟨_, rfl, rfl, _, rfl, eqs_x he1 (by decide) (by decide)⟩
end RF
