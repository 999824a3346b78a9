/-! THE REFERENCE: a day is told, a party's table is told -/
theorem MT.of {I J : Nat → Nat → Int32} {W H : Nat} (h : MT I W H) (e : J 1072 = I 1072) : MT J W H := by unfold MT at *; rw [e]; exact h
theorem RQ.of {I J : Nat → Nat → Int32} {W H : Nat} (h : RQ I W H) (e : J 1072 = I 1072) (e2 : J 1075 = I 1075) : RQ J W H := by unfold RQ MT at *; rw [e, e2]; exact h
theorem sOne_le {W H pace : Nat} {m : Nat → Nat → Bool} {s : Nat → Nat → Nat} (hs : ∀ q j, s q j ≤ 1000) (c : Nat) {t : Nat} (ht : t ≤ 1000) : sOne W H pace m s c t ≤ 1000 := by
  have h : ∀ v, sUp W H pace m s c t v ≤ 1000 := by
    intro v
    induction v with
    | zero =>
      show sStay m s c t ≤ 1000
      unfold sStay
      split
      · exact hs _ _
      · omega
    | succ v ih =>
      show sMin W H pace m s c t v _ ≤ 1000
      unfold sMin
      split
      · split
        · split
          · exact hs _ _
          · exact ih
        · exact ih
      · exact ih
  unfold sOne
  split
  · exact ht
  · exact h 4
theorem snT_le {W H pace : Nat} {m : Nat → Nat → Bool} : ∀ r q j, snT W H pace m r q j ≤ 1000
  | 0, _, _ => Nat.zero_le _
  | r + 1, q, j => by
    show (if j = 95 - r then sOne W H pace m (snT W H pace m r) q j else snT W H pace m r q j) ≤ 1000
    split
    · exact sOne_le (snT_le r) q (by omega)
    · exact snT_le r q j
theorem sn_le {W H pace : Nat} {m : Nat → Nat → Bool} (q j : Nat) : sn W H pace m q j ≤ 1000 := snT_le 96 q j
def mK (I : Nat → Nat → Int32) (W H len day : Nat) (wind : Int32) (kind load : Nat) (c t : Nat) : Bool := mayQ W (hgt I) (wht I) (qq I W H day) (wlev (I 1082) len day t wind) kind load c
theorem mK_kp {I J : Nat → Nat → Int32} (h : kp I J) (W H len day : Nat) (wind : Int32) (kind load : Nat) : mK J W H len day wind kind load = mK I W H len day wind kind load := by
  funext c t; unfold mK; rw [hgt_kp h, wht_kp h, qq_kp h, h 1082 (by omega) (by omega)]
def TD (I J : Nat → Nat → Int32) (W H len day : Nat) (wind : Int32) : Prop := (∀ t, t < 96 → J 1088 t = nI (wlev (I 1082) len day t wind)) ∧ ∀ c, c < W * H → J 1089 c = jb (qq I W H day c)
def TS (J : Nat → Nat → Int32) (W H pace : Nat) (m : Nat → Nat → Bool) : Prop := J 1069 35 = nI pace ∧ (∀ q j, q < W * H → j < 96 → J 1090 (96 * q + j) = jb (m q j)) ∧ ∀ q j, q < W * H → j < 96 → J 1091 (96 * q + j) = nI (sn W H pace m q j)
def eqS (I J : Nat → Nat → Int32) : Prop := ∀ b j : Nat, b ≠ 1090 → b ≠ 1091 → ¬ (b = 1069 ∧ j = 35) → J b j = I b j
theorem eqS_s {I J : Nat → Nat → Int32} (h : eqS I J) : eqs I J := fun b j hb => by
  unfold scr at hb
  simp only [Bool.or_eq_false_iff, decide_eq_false_iff_not] at hb
  exact h b j (by omega) (by omega) (by omega)
section RE
variable {w : jWD} {l : Launch} {n : Nat} {I : Nat → Nat → Int32} {L : Nat → Nat → Int64} {R : Nat → Nat → Option Nat}

set_option maxHeartbeats 1000000 in
set_option maxRecDepth 20000 in
theorem tX11_tellDay (hW : jWok w l) (hR : RS R) {W H np len : Nat} (hI : RI I W H np len) {day : Nat} (hd : day ≤ 40) (wind : Int32) : jRv w l mX11_tellDay 3 [.ref 1069, .int (nI day), .int wind] (n, shE, I, L, R) (fun t => ∃ J, t = (n, shE, J, L, R) ∧ eqx [1086, 1087, 1088, 1089] I J ∧ TD I J W H len day wind) := by
  refine jRv_of hW (by decide) rfl (Nat.le_of_ble_eq_true rfl) ?_
  have hQ := hI.1
  have hT := hQ.1
  have hz := hT.wh
  have hw3 := hT.2.2.1
  have hw9 := hT.2.2.2.1
  have hh1 := hT.2.2.2.2.1
  have hh7 := hT.2.2.2.2.2
  obtain ⟨⟨hx1, hx2⟩, hy1, hy2⟩ := hI.2.2.1
  obtain ⟨hl, hl7, hok, hfin⟩ := hI.2.2.2.2.2.2.1
  have key : ∀ k, k ≤ 96 → ∀ J, eqx [1086, 1087, 1088] (fl I 1089 (fun c => jb (qq I W H day c)) (W * H)) J → (∀ t, t < k → J 1088 t = nI (wlev (I 1082) len day t wind)) → jWP w l mX11_tellDay 3 0 0 (fun v t => v = none ∧ (fun t => ∃ J, t = (n, shE, J, L, R) ∧ eqx [1086, 1087, 1088, 1089] I J ∧ TD I J W H len day wind) t) (fun _ _ => False) 20 [(0, .ref 1069), (1, .int (nI day)), (2, .int wind), (3, .int (nI k))] [] (n, shE, J, L, R) := by
    refine jdown _ (fun k hk ih => ?_)
    intro J he hlv
    have hkp : kp I J := kp_t (kp_f (kp_r I) (by omega)) (kp_x he (by decide))
    have hl2 : J 1072 16 = nI len := by rw [hkp 1072 (by omega) (by omega)]; exact hl
    have hok2 : wok (J 1082) len := by rw [hkp 1082 (by omega) (by omega)]; exact hok
    have hfin2 : len = 0 ∨ 0 < wdep (J 1082) len := by rw [hkp 1082 (by omega) (by omega)]; exact hfin
    refine jx_iload_n dX11_tellDay_20 rfl ?_
    refine jx_bipush (v := 96) dX11_tellDay_21 (by decide) ?_
    refine jx_icmpN_ge (a := k) (b := 96) 45 dX11_tellDay_23 (by decide) (by omega) (by omega) (fun h23 => ?_) (fun h23 => ?_)
    · refine jx_vret dX11_tellDay_45 rfl ?_
      have : k = 96 := by omega
      subst this
      refine ⟨rfl, J, rfl, fun b j hb => ?_, hlv, fun c hc => ?_⟩
      · rw [he b j (fun q => hb (by simp at q ⊢; omega))]
        exact fl_ne (fun q => hb (by rw [q]; decide))
      · rw [he 1089 c (by decide)]
        exact fl_in hc
    · refine jx_aload_n dX11_tellDay_26 rfl ?_
      refine jx_getR dX11_tellDay_27 flX11_88 rfl rfl (hR _ _ _ rfl) ?_
      refine jx_iload_n dX11_tellDay_30 rfl ?_
      refine jx_aload_n dX11_tellDay_31 rfl ?_
      refine jx_iload_n dX11_tellDay_32 rfl ?_
      refine jx_iload_n dX11_tellDay_33 rfl ?_
      refine jx_iload_n dX11_tellDay_34 rfl ?_
      refine jx_VRi (as := [.int _, .int _, .int _]) dX11_tellDay_35 mlX11_390 okX11_waterOf viX11_waterOf rfl rfl rfl rfl rfl (by decide) (Nat.le_of_ble_eq_true rfl) (tX11_waterOf hW hR hl2 hl7 hok2 hfin2 hd h23 wind) (fun x35 t35 hq35 => ?_)
      obtain ⟨rfl, J2, rfl, he2⟩ := hq35
      rw [hkp 1082 (by omega) (by omega)]
      refine jx_iastN (k) dX11_tellDay_38 rfl (rfl) (by omega) (by omega) ?_
      refine jx_iinc dX11_tellDay_39 rfl (v := nI (k + 1)) (nI_1 _) (by decide) ?_
      refine jx_goto 20 dX11_tellDay_42 (by decide) ?_
      refine jx_ls (by exact ⟨rfl, rfl, rfl, rfl, trivial⟩) (ih h23 _ (eqx_u (eqx_t he (eqx_m he2 (by decide))) (by decide)) (fun t ht => ?_))
      by_cases e : t = k
      · subst e; exact upI_s
      · rw [upI_j e, he2 1088 t (by decide)]; exact hlv t (by omega)
  refine jx_aload_n dX11_tellDay_0 rfl ?_
  refine jx_iload_n dX11_tellDay_1 rfl ?_
  refine jx_aload_n dX11_tellDay_2 rfl ?_
  refine jx_getR dX11_tellDay_3 flX11_34 rfl rfl (hR _ _ _ rfl) ?_
  refine jx_iconst (v := 5) dX11_tellDay_6 (by decide) ?_
  refine jx_ialdN (5) dX11_tellDay_7 rfl (rfl) (by omega) (by omega) ?_
  refine jx_aload_n dX11_tellDay_8 rfl ?_
  refine jx_getR dX11_tellDay_9 flX11_34 rfl rfl (hR _ _ _ rfl) ?_
  refine jx_bipush (v := 6) dX11_tellDay_12 (by decide) ?_
  refine jx_ialdN (6) dX11_tellDay_14 rfl (rfl) (by omega) (by omega) ?_
  refine jx_Vv (as := [.int _, .int _, .int _]) dX11_tellDay_15 mlX11_386 okX11_tellQuick viX11_tellQuick rfl rfl rfl rfl rfl (by decide) (Nat.le_of_ble_eq_true rfl) (tX11_tellQuick hW hR hQ hd hx1 hx2 hy1 hy2) ?_
  refine jx_iconst (v := 0) dX11_tellDay_18 (by decide) ?_
  refine jx_istore_n dX11_tellDay_19 rfl (by decide) ?_
  exact jx_ls (by exact ⟨rfl, rfl, rfl, rfl, trivial⟩) (key 0 (by omega) _ (eqx_r _ _) (fun t ht => absurd ht (by omega)))
set_option maxHeartbeats 1000000 in
set_option maxRecDepth 20000 in
theorem tX11_tellSoon (hW : jWok w l) (hR : RS R) {W H : Nat} (hT : MT I W H) {hg wh : Nat → Nat} {q : Nat → Bool} {lev : Nat → Nat} {kind speed load fog pace : Nat} (hk : kind ≤ 3) (hsp : 1 ≤ speed ∧ speed ≤ 4) (hl : load ≤ 9) (hf : fog ≤ 3) (hpe : paceOf kind speed fog = pace) (h1 : ∀ c, c < W * H → I 1074 c = nI (wh c) ∧ wh c ≤ 2) (h2 : ∀ c, c < W * H → I 1073 c = nI (hg c) ∧ hg c ≤ 9) (h3 : ∀ t, t < 96 → I 1088 t = nI (lev t) ∧ lev t ≤ 20) (h4 : ∀ c, c < W * H → I 1089 c = jb (q c)) : jRv w l mX11_tellSoon 4 [.ref 1069, .int (nI kind), .int (nI speed), .int (nI load), .int (nI fog)] (n, shE, I, L, R) (fun t => ∃ J, t = (n, shE, J, L, R) ∧ eqS I J ∧ TS J W H pace (fun c t => mayQ W hg wh q (lev t) kind load c)) := by
  refine jRv_of hW (by decide) rfl (Nat.le_of_ble_eq_true rfl) ?_
  have hz := hT.wh
  have hw3 := hT.2.2.1
  have hw9 := hT.2.2.2.1
  have hh1 := hT.2.2.2.2.1
  have hh7 := hT.2.2.2.2.2
  have hp : 1 ≤ pace ∧ pace ≤ 7 := by rw [← hpe]; unfold paceOf; split <;> omega
  obtain ⟨hp1, hp7⟩ := hp
  obtain ⟨I1, hI1⟩ : ∃ I1, I1 = upI I 1069 35 (nI pace) := ⟨_, rfl⟩
  have a0 : ∀ b j, b ≠ 1069 → I1 b j = I b j := fun b j hb => by rw [hI1]; exact upI_nea' hb
  have a1 : I1 1069 35 = nI pace := by rw [hI1]; exact upI_s
  have a2 : ∀ j, j ≠ 35 → I1 1069 j = I 1069 j := fun j hj => by rw [hI1]; exact upI_j hj
  have aT : I1 1072 = I 1072 := funext fun j => a0 1072 j (by decide)
  have ex : ∃ m : Nat → Nat → Bool, m = (fun c t => mayQ W hg wh q (lev t) kind load c) := ⟨_, rfl⟩
  obtain ⟨m, hm⟩ := ex
  have hmi : ∀ c t, mayQ W hg wh q (lev t) kind load c = m c t := fun c t => by rw [hm]
  rw [← hm]
  have keyB : ∀ r, r ≤ 96 → ∀ J, eqx [1091] (fl I1 1090 (fun i => jb (m (i / 96) (i % 96))) (96 * (W * H))) J → (∀ q j, q < W * H → r ≤ j → j < 96 → J 1091 (96 * q + j) = nI (sn W H pace m q j)) → jWP w l mX11_tellSoon 4 0 0 (fun v t => v = none ∧ (fun t => ∃ J, t = (n, shE, J, L, R) ∧ eqS I J ∧ TS J W H pace m) t) (fun _ _ => False) 95 [(0, .ref 1069), (1, .int (nI kind)), (2, .int (nI speed)), (3, .int (nI load)), (4, .int (nI fog)), (5, .int (nI (W * H))), (6, .int (zI ((r : Int) - 1)))] [] (n, shE, J, L, R) := by
    intro r
    induction r with
    | zero =>
      intro _ J he hs
      refine jx_iload dX11_tellSoon_95 rfl ?_
      refine jx_if_lt 143 dX11_tellSoon_97 (by decide) (fun h97 => ?_) (fun h97 => ?_)
      · refine jx_vret dX11_tellSoon_143 rfl ?_
        refine ⟨rfl, J, rfl, fun b j b1 b2 b3 => ?_, ?_, fun q j hq hj => ?_, fun q j hq hj => hs q j hq (by omega) hj⟩
        · rw [he b j (by simpa using b2), fl_ne b1]
          by_cases e : b = 1069
          · subst e; exact a2 j (fun e2 => b3 ⟨rfl, e2⟩)
          · exact a0 b j e
        · rw [he 1069 35 (by decide), fl_ne (by decide)]; exact a1
        · rw [he 1090 _ (by decide), fl_in (by omega)]
          rw [show (96 * q + j) / 96 = q by omega, show (96 * q + j) % 96 = j by omega]
      · exact absurd (by decide) h97
    | succ t ihr =>
      intro ht J he hs
      have hmB : ∀ J, eqx [1091] (fl I1 1090 (fun i => jb (m (i / 96) (i % 96))) (96 * (W * H))) J → ∀ q j, q < W * H → j < 96 → J 1090 (96 * q + j) = jb (m q j) := by
        intro J he q j hq hj
        rw [he 1090 _ (by decide), fl_in (by omega), show (96 * q + j) / 96 = q by omega, show (96 * q + j) % 96 = j by omega]
      have hTB : ∀ J, eqx [1091] (fl I1 1090 (fun i => jb (m (i / 96) (i % 96))) (96 * (W * H))) J → MT J W H := fun J he => hT.of (funext fun j => by rw [he 1072 j (by decide), fl_ne (by decide), aT])
      have hpB : ∀ J, eqx [1091] (fl I1 1090 (fun i => jb (m (i / 96) (i % 96))) (96 * (W * H))) J → J 1069 35 = nI pace := fun J he => by rw [he 1069 35 (by decide), fl_ne (by decide)]; exact a1
      have keyC : ∀ c, c ≤ W * H → ∀ J, eqx [1091] (fl I1 1090 (fun i => jb (m (i / 96) (i % 96))) (96 * (W * H))) J → (∀ q j, q < W * H → (t < j ∨ (j = t ∧ q < c)) → j < 96 → J 1091 (96 * q + j) = nI (sn W H pace m q j)) → jWP w l mX11_tellSoon 4 0 0 (fun v t => v = none ∧ (fun t => ∃ J, t = (n, shE, J, L, R) ∧ eqS I J ∧ TS J W H pace m) t) (fun _ _ => False) 103 [(0, .ref 1069), (1, .int (nI kind)), (2, .int (nI speed)), (3, .int (nI load)), (4, .int (nI fog)), (5, .int (nI (W * H))), (6, .int (nI t)), (7, .int (nI c))] [] (n, shE, J, L, R) := by
        refine jdown _ (fun c hc ih => ?_)
        intro J he hs
        refine jx_iload dX11_tellSoon_103 rfl ?_
        refine jx_iload dX11_tellSoon_105 rfl ?_
        refine jx_icmpN_ge (a := c) (b := (W * H)) 137 dX11_tellSoon_107 (by decide) (by omega) (by omega) (fun h107 => ?_) (fun h107 => ?_)
        · refine jx_iinc dX11_tellSoon_137 rfl (v := zI ((t : Int) - 1)) (by rw [nI_zI]; exact zI_add _ _) (by decide) ?_
          refine jx_goto 95 dX11_tellSoon_140 (by decide) ?_
          refine jx_ls (by exact ⟨rfl, rfl, rfl, rfl, rfl, rfl, rfl, trivial⟩) (ihr (by omega) J he (fun q j hq h1 h2 => hs q j hq (by omega) h2))
        · refine jx_aload_n dX11_tellSoon_110 rfl ?_
          refine jx_getR dX11_tellSoon_111 flX11_97 rfl rfl (hR _ _ _ rfl) ?_
          refine jx_bipush (v := 96) dX11_tellSoon_114 (by decide) ?_
          refine jx_iload dX11_tellSoon_116 rfl ?_
          refine jx_imulE (z := nI (96 * c)) dX11_tellSoon_118 (pk_mul 96 c) ?_
          refine jx_iload dX11_tellSoon_119 rfl ?_
          refine jx_iaddE (z := nI ((96 * c) + t)) dX11_tellSoon_121 (nI_add (96 * c) t) ?_
          refine jx_aload_n dX11_tellSoon_122 rfl ?_
          refine jx_iload dX11_tellSoon_123 rfl ?_
          refine jx_iload dX11_tellSoon_125 rfl ?_
          refine jx_Vi (as := [.int _, .int _]) dX11_tellSoon_127 mlX11_413 okX11_soonOf viX11_soonOf rfl rfl rfl rfl rfl (by decide) (Nat.le_of_ble_eq_true rfl) (tX11_soonOf hW hR (hTB J he) (hpB J he) hp1 hp7 (m := m) (s := sn W H pace m) h107 (by omega) (hmB J he) (fun q j hq h1 h2 => hs q j hq (Or.inl h1) h2) sn_le) ?_
          rw [← sn_eq hp1 (by omega)]
          refine jx_iastN ((96 * c) + t) dX11_tellSoon_130 rfl (rfl) (by omega) (by omega) ?_
          refine jx_iinc dX11_tellSoon_131 rfl (v := nI (c + 1)) (nI_1 _) (by decide) ?_
          refine jx_goto 103 dX11_tellSoon_134 (by decide) ?_
          refine jx_ls (by exact ⟨rfl, rfl, rfl, rfl, rfl, rfl, rfl, rfl, trivial⟩) (ih h107 _ (eqx_u he (by decide)) (fun q j hq hqj hj => ?_))
          by_cases e : 96 * q + j = 96 * c + t
          · have e1 : q = c := by omega
            have e2 : j = t := by omega
            subst e1 e2
            exact upI_s
          · rw [upI_j e]
            exact hs q j hq (by omega) hj
      have e6 : zI (((t + 1 : Nat) : Int) - 1) = nI t := by rw [nI_zI]; congr 1; omega
      rw [e6]
      refine jx_iload dX11_tellSoon_95 rfl ?_
      refine jx_ifN_lt (a := t) 143 dX11_tellSoon_97 (by decide) (by omega) ?_
      refine jx_iconst (v := 0) dX11_tellSoon_100 (by decide) ?_
      refine jx_istore dX11_tellSoon_101 (by decide) ?_
      refine jx_ls (by exact ⟨rfl, rfl, rfl, rfl, rfl, rfl, rfl, rfl, trivial⟩) (keyC 0 (by omega) J he (fun q j hq h1 h2 => hs q j hq (by omega) h2))
  have keyA : ∀ c, c ≤ W * H → jWP w l mX11_tellSoon 4 0 0 (fun v t => v = none ∧ (fun t => ∃ J, t = (n, shE, J, L, R) ∧ eqS I J ∧ TS J W H pace m) t) (fun _ _ => False) 39 [(0, .ref 1069), (1, .int (nI kind)), (2, .int (nI speed)), (3, .int (nI load)), (4, .int (nI fog)), (5, .int (nI (W * H))), (6, .int (nI c))] [] (n, shE, fl I1 1090 (fun i => jb (m (i / 96) (i % 96))) (96 * c), L, R) := by
    refine jdown _ (fun c hc ih => ?_)
    have keyT : c < W * H → ∀ t, t ≤ 96 → jWP w l mX11_tellSoon 4 0 0 (fun v t => v = none ∧ (fun t => ∃ J, t = (n, shE, J, L, R) ∧ eqS I J ∧ TS J W H pace m) t) (fun _ _ => False) 49 [(0, .ref 1069), (1, .int (nI kind)), (2, .int (nI speed)), (3, .int (nI load)), (4, .int (nI fog)), (5, .int (nI (W * H))), (6, .int (nI c)), (7, .int (nI t))] [] (n, shE, fl I1 1090 (fun i => jb (m (i / 96) (i % 96))) (96 * c + t), L, R) := by
      intro hlt
      refine jdown _ (fun t ht iht => ?_)
      refine jx_iload dX11_tellSoon_49 rfl ?_
      refine jx_bipush (v := 96) dX11_tellSoon_51 (by decide) ?_
      refine jx_icmpN_ge (a := t) (b := 96) 85 dX11_tellSoon_53 (by decide) (by omega) (by omega) (fun h53 => ?_) (fun h53 => ?_)
      · refine jx_iinc dX11_tellSoon_85 rfl (v := nI (c + 1)) (nI_1 _) (by decide) ?_
        refine jx_goto 39 dX11_tellSoon_88 (by decide) ?_
        have : t = 96 := by omega
        subst this
        have k := ih hlt
        rw [show 96 * (c + 1) = 96 * c + 96 by omega] at k
        exact jx_ls (by exact ⟨rfl, rfl, rfl, rfl, rfl, rfl, rfl, trivial⟩) k
      · refine jx_aload_n dX11_tellSoon_56 rfl ?_
        refine jx_getR dX11_tellSoon_57 flX11_94 rfl rfl (hR _ _ _ rfl) ?_
        refine jx_bipush (v := 96) dX11_tellSoon_60 (by decide) ?_
        refine jx_iload dX11_tellSoon_62 rfl ?_
        refine jx_imulE (z := nI (96 * c)) dX11_tellSoon_64 (pk_mul 96 c) ?_
        refine jx_iload dX11_tellSoon_65 rfl ?_
        refine jx_iaddE (z := nI ((96 * c) + t)) dX11_tellSoon_67 (nI_add (96 * c) t) ?_
        refine jx_aload_n dX11_tellSoon_68 rfl ?_
        refine jx_iload_n dX11_tellSoon_69 rfl ?_
        refine jx_iload_n dX11_tellSoon_70 rfl ?_
        refine jx_iload dX11_tellSoon_71 rfl ?_
        refine jx_iload dX11_tellSoon_73 rfl ?_
        refine jx_Vi (as := [.int _, .int _, .int _, .int _]) dX11_tellSoon_75 mlX11_409 okX11_mayBe viX11_mayBe rfl rfl rfl rfl rfl (by decide) (Nat.le_of_ble_eq_true rfl) (tX11_mayBe hW hR (hT.of (funext fun j => (fl_ne (by decide)).trans (congrFun aT j))) (hgt := hg) (wh := wh) (q := q) (lev := lev t) hlt h53 hk hl ((fl_ne (by decide)).trans ((a0 _ _ (by decide)).trans (h1 c hlt).1)) (h1 c hlt).2 ((fl_ne (by decide)).trans ((a0 _ _ (by decide)).trans (h2 c hlt).1)) (h2 c hlt).2 ((fl_ne (by decide)).trans ((a0 _ _ (by decide)).trans (h3 t h53).1)) (h3 t h53).2 ((fl_ne (by decide)).trans ((a0 _ _ (by decide)).trans (h4 c hlt)))) ?_
        rw [hmi c t]
        refine jx_zastN ((96 * c) + t) dX11_tellSoon_78 rfl (rfl) (by omega) (by omega) ?_
        refine jx_iinc dX11_tellSoon_79 rfl (v := nI (t + 1)) (nI_1 _) (by decide) ?_
        refine jx_goto 49 dX11_tellSoon_82 (by decide) ?_
        rw [jb_and1, show jb (m c t) = (fun i => jb (m (i / 96) (i % 96))) (96 * c + t) from by show _ = jb (m ((96 * c + t) / 96) ((96 * c + t) % 96)); rw [show (96 * c + t) / 96 = c by omega, show (96 * c + t) % 96 = t by omega], fl_s I1 1090 (fun i => jb (m (i / 96) (i % 96))) (96 * c + t)]
        exact jx_ls (by exact ⟨rfl, rfl, rfl, rfl, rfl, rfl, rfl, rfl, trivial⟩) (iht h53)
    refine jx_iload dX11_tellSoon_39 rfl ?_
    refine jx_iload dX11_tellSoon_41 rfl ?_
    refine jx_icmpN_ge (a := c) (b := (W * H)) 91 dX11_tellSoon_43 (by decide) (by omega) (by omega) (fun h43 => ?_) (fun h43 => ?_)
    · refine jx_bipush (v := 95) dX11_tellSoon_91 (by decide) ?_
      refine jx_istore dX11_tellSoon_93 (by decide) ?_
      have : c = W * H := by omega
      subst this
      exact jx_ls (by exact ⟨rfl, rfl, rfl, rfl, rfl, rfl, rfl, trivial⟩) (keyB 96 (by omega) _ (eqx_r _ _) (fun q j _ h1 h2 => absurd h1 (by omega)))
    · refine jx_iconst (v := 0) dX11_tellSoon_46 (by decide) ?_
      refine jx_istore dX11_tellSoon_47 (by decide) ?_
      exact jx_ls (by exact ⟨rfl, rfl, rfl, rfl, rfl, rfl, rfl, rfl, trivial⟩) (keyT h43 0 (by omega))
  have key21 : jWP w l mX11_tellSoon 4 0 0 (fun v t => v = none ∧ (fun t => ∃ J, t = (n, shE, J, L, R) ∧ eqS I J ∧ TS J W H pace m) t) (fun _ _ => False) 21 [(0, .ref 1069), (1, .int (nI kind)), (2, .int (nI speed)), (3, .int (nI load)), (4, .int (nI fog))] [] (n, shE, I1, L, R) := by
    refine jx_aload_n dX11_tellSoon_21 rfl ?_
    refine jx_getR dX11_tellSoon_22 flX11_34 rfl rfl (hR _ _ _ rfl) ?_
    refine jx_iconst (v := 0) dX11_tellSoon_25 (by decide) ?_
    refine jx_ialdE (0) dX11_tellSoon_26 rfl (rfl) (by omega) (by omega) ((congrFun aT 0).trans hT.1) ?_
    refine jx_aload_n dX11_tellSoon_27 rfl ?_
    refine jx_getR dX11_tellSoon_28 flX11_34 rfl rfl (hR _ _ _ rfl) ?_
    refine jx_iconst (v := 1) dX11_tellSoon_31 (by decide) ?_
    refine jx_ialdE (1) dX11_tellSoon_32 rfl (rfl) (by omega) (by omega) ((congrFun aT 1).trans hT.2.1) ?_
    refine jx_imulE (z := nI (W * H)) dX11_tellSoon_33 (pk_mul W H) ?_
    refine jx_istore dX11_tellSoon_34 (by decide) ?_
    refine jx_iconst (v := 0) dX11_tellSoon_36 (by decide) ?_
    refine jx_istore dX11_tellSoon_37 (by decide) ?_
    have k := keyA 0 (by omega)
    rw [Nat.mul_zero, fl_0] at k
    exact jx_ls (by exact ⟨rfl, rfl, rfl, rfl, rfl, rfl, rfl, trivial⟩) k
  refine jx_aload_n dX11_tellSoon_0 rfl ?_
  refine jx_iload_n dX11_tellSoon_1 rfl ?_
  refine jx_iconst (v := 3) dX11_tellSoon_2 (by decide) ?_
  refine jx_icmpN_ne (a := kind) (b := 3) 14 dX11_tellSoon_3 (by decide) (by omega) (by omega) (fun h3 => ?_) (fun h3 => ?_)
  · refine jx_iload_n dX11_tellSoon_14 rfl ?_
    refine jx_iload dX11_tellSoon_15 rfl ?_
    refine jx_iaddE (z := nI (speed + fog)) dX11_tellSoon_17 (nI_add speed fog) ?_
    refine jx_putI dX11_tellSoon_18 flX11_399 rfl rfl (fun r h => by cases h; rfl) ?_
    have e : upI I 1069 35 (nI (speed + fog)) = I1 := by rw [hI1, ← hpe]; unfold paceOf; first | rw [if_pos h3] | rw [if_neg h3]
    rw [e]
    exact key21
  · refine jx_iload_n dX11_tellSoon_6 rfl ?_
    refine jx_iconst (v := 1) dX11_tellSoon_7 (by decide) ?_
    refine jx_iaddE (z := nI (speed + 1)) dX11_tellSoon_8 (nI_add speed 1) ?_
    refine jx_iconst (v := 2) dX11_tellSoon_9 (by decide) ?_
    refine jx_idivE (z := nI ((speed + 1) / 2)) dX11_tellSoon_10 (nI_ne0 (n := 2) (by omega) (by omega)) (pk_div (a := (speed + 1)) (d := 2) (by omega) (by omega) (by omega)) ?_
    refine jx_goto 15 dX11_tellSoon_11 (by decide) ?_
    refine jx_iload dX11_tellSoon_15 rfl ?_
    refine jx_iaddE (z := nI (((speed + 1) / 2) + fog)) dX11_tellSoon_17 (nI_add ((speed + 1) / 2) fog) ?_
    refine jx_putI dX11_tellSoon_18 flX11_399 rfl rfl (fun r h => by cases h; rfl) ?_
    have e : upI I 1069 35 (nI ((speed + 1) / 2 + fog)) = I1 := by rw [hI1, ← hpe]; unfold paceOf; first | rw [if_pos h3] | rw [if_neg h3]
    rw [e]
    exact key21
end RE
