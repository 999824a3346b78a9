/-! THE CLASS: rents -/
def scD (b j : Nat) : Bool := scI b j || decide (b = 1045 ∨ b = 1048 ∨ b = 1049 ∨ b = 1050)
def scDL (b j : Nat) : Bool := scL b j || decide (b = 1047)
def eqD (I J : Nat → Nat → Int32) : Prop := ∀ b j, scD b j = false → J b j = I b j
def eqDL (L M : Nat → Nat → Int64) : Prop := ∀ b j, scDL b j = false → M b j = L b j
theorem eqC_D {I J : Nat → Nat → Int32} (h : eqC I J) : eqD I J := fun b j hb => h b j (by unfold scD at hb; simp only [Bool.or_eq_false_iff] at hb; exact hb.1)
theorem eqCL_D {I J : Nat → Nat → Int64} (h : eqCL I J) : eqDL I J := fun b j hb => h b j (by unfold scDL at hb; simp only [Bool.or_eq_false_iff] at hb; exact hb.1)
theorem eqD_r (I : Nat → Nat → Int32) : eqD I I := fun _ _ _ => rfl
theorem eqDL_r (L : Nat → Nat → Int64) : eqDL L L := fun _ _ _ => rfl
theorem eqD_t {I J K : Nat → Nat → Int32} (h1 : eqD I J) (h2 : eqD J K) : eqD I K := fun b j h => (h2 b j h).trans (h1 b j h)
theorem eqDL_t {I J K : Nat → Nat → Int64} (h1 : eqDL I J) (h2 : eqDL J K) : eqDL I K := fun b j h => (h2 b j h).trans (h1 b j h)
theorem eqD_u {I J : Nat → Nat → Int32} {a k : Nat} {v : Int32} (h : eqD I J) (ha : scD a k = true) : eqD I (upI J a k v) := fun b j hb => by
  by_cases e : b = a ∧ j = k
  · rw [e.1, e.2, ha] at hb; cases hb
  · rw [upI_ne e]; exact h b j hb
theorem eqDL_u {L M : Nat → Nat → Int64} {a k : Nat} {v : Int64} (h : eqDL L M) (ha : scDL a k = true) : eqDL L (upL M a k v) := fun b j hb => by
  by_cases e : b = a ∧ j = k
  · rw [e.1, e.2, ha] at hb; cases hb
  · rw [upL_ne e]; exact h b j hb
def jQD (w : jWD) (l : Launch) (M : jMI) (d : Nat) (as : List Value) (n : Nat) (I : Nat → Nat → Int32) (L : Nat → Nat → Int64) (R : Nat → Nat → Option Nat) (h : Nat) (T : Nat → Nat → Int32) (W H np len : Nat) (v : Int32) : Prop := jRi w l M d as (n, shE, I, L, R) (fun r t => r = v ∧ ∃ J M', t = (n, shE, J, M', R) ∧ eqD I J ∧ eqDL L M' ∧ CX J M' R h T W H np len)
def jRr (w : jWD) (l : Launch) (M : jMI) (d : Nat) (as : List Value) (σ : jHS) (x : Nat) (Q : jHS → Prop) : Prop := jCt w l M d 0 0 as σ (fun v t => v = some (.ref x) ∧ Q t) (fun _ _ => False)
section CP0
variable {w : jWD} {l : Launch} {M N : jMI} {d kc ks : Nat} {Qn : Option Value → jHS → Prop} {Qx : String → jHS → Prop} {pc : Nat} {ls : List (Nat × Value)} {st : List Value} {σ : jHS} {idx a ci d' np : Nat} {as : List Value} {r : vw_C}
theorem jRr_of {x : Nat} (hW : jWok w l) (hy : plainName M.1.cls = true) (hh : M.2.2.2.2 = []) {as : List Value} {Q : jHS → Prop} (hlen : (as.map Value.category).sum ≤ M.2.2.1) (h : jWP w l M d 0 0 (fun v t => v = some (.ref x) ∧ Q t) (fun _ _ => False) 0 (lv_args 0 as) [] σ) : jRr w l M d as σ x Q := jCt_of hW hy hh hlen h
theorem jx_VRr {x : Nat} {Q : jHS → Prop} (hd : decode M.2.1 pc = .ok (.invokevirtual idx, 3)) (hl : Cond.methodLink M.1.cls idx N.1 ∈ lw_tbl) (hN : jOK N np) (hV : jVir N) (hM : M.2.2.2.2 = []) (hs : σ.2.1 a = (0, ci)) (hr : vwCl[ci]? = some r) (hrc : r.1 = N.1.cls) (hlen : as.length = np) (hdd : d' < d) (hst : (st.map Value.category).sum ≤ 8)
    (hC : jRr w l N d' (.ref a :: as) σ x Q) (k : ∀ t, Q t → jWP w l M d kc ks Qn Qx (pc + 3) ls (.ref x :: st) t) : jWP w l M d kc ks Qn Qx pc ls (as.reverse ++ .ref a :: st) σ :=
  jx_invV hd hl hN hV hM hs hr hrc hlen hdd (Nat.zero_le _) (Nat.zero_le _) hst hC (fun _ t h => by rw [h.1]; exact k _ h.2) (fun _ _ h => h.elim)
end CP0
/-- by which means: 1 a horse, 2 stilts -/
def catN (bh bs : Nat → Bool) (p : Nat) : Nat := (if bh p = true then 1 else 0) + (if bs p = true then 2 else 0)
def tkN (bh bs : Nat → Bool) (k c : Nat) : Nat := cntN (fun p => decide (catN bh bs p = c)) k
theorem tk_gH {bh bs : Nat → Bool} (h s : Nat) : ∀ k, cntN (tkH bh bs h s) k = tkN bh bs k 1 + (if h ≤ s then tkN bh bs k 3 else 0)
  | 0 => by show 0 = 0 + (if _ then 0 else 0); split <;> rfl
  | k + 1 => by
    have ih := tk_gH (bh := bh) (bs := bs) h s k
    unfold tkN at ih ⊢
    rw [cntN, cntN, cntN, ih]
    have e : tkH bh bs h s k = (bh k && (!(bs k) || decide (h ≤ s))) := rfl
    rw [e]
    unfold catN
    by_cases c : h ≤ s <;> cases bh k <;> cases bs k <;> simp [c] <;> omega
theorem tk_gS {bh bs : Nat → Bool} (h s : Nat) : ∀ k, cntN (fun p => bs p && !(tkH bh bs h s p)) k = tkN bh bs k 2 + (if s < h then tkN bh bs k 3 else 0)
  | 0 => by show 0 = 0 + (if _ then 0 else 0); split <;> rfl
  | k + 1 => by
    have ih := tk_gS (bh := bh) (bs := bs) h s k
    unfold tkN at ih ⊢
    rw [cntN, cntN, cntN, ih]
    have e : tkH bh bs h s k = (bh k && (!(bs k) || decide (h ≤ s))) := rfl
    rw [e]
    unfold catN
    by_cases c : s < h <;> cases bh k <;> cases bs k <;> simp [c, Nat.not_le.mpr, show (h ≤ s) = ¬ (s < h) from propext (by omega)] <;> omega
section CP1
variable {w : jWD} {l : Launch} {n : Nat} {I : Nat → Nat → Int32} {L : Nat → Nat → Int64} {R : Nat → Nat → Option Nat}

set_option maxHeartbeats 1000000 in
set_option maxRecDepth 20000 in
theorem tX0_takersOn (hW : jWok w l) (hR : RS R) {h : Nat} {T : Nat → Nat → Int32} {W H np len : Nat} (hC : CF I L R h T W H np len) {day tick : Nat} (hd : day ≤ 40) (ht : tick < 96) : jRr w l mX0_takersOn 6 [.ref 1040, .int (nI day), .int (nI tick)] (n, shE, I, L, R) 1045 (fun t => ∃ J M, t = (n, shE, J, M, R) ∧ eqD I J ∧ eqDL L M ∧ CF J M R h T W H np len ∧ ∀ c, c < 4 → J 1045 c = nI (tkN (byK T W H len day tick 1) (byK T W H len day tick 2) np c)) := by
  refine jRr_of hW (by decide) rfl (Nat.le_of_ble_eq_true rfl) ?_
  have hC0 := hC
  obtain ⟨⟨hh, hRi⟩, -, hRI, -, -, -⟩ := hC
  have hn6 := hRI.2.2.2.2.1.2
  have hT := RI.tq hRI
  have key : ∀ p, p ≤ np → ∀ (J : Nat → Nat → Int32) (M : Nat → Nat → Int64), eqD I J → eqDL L M → CF J M R h T W H np len → (∀ c, c < 4 → J 1045 c = nI (tkN (byK T W H len day tick 1) (byK T W H len day tick 2) p c)) → jWP w l mX0_takersOn 6 0 0 (fun v t => v = some (.ref 1045) ∧ ∃ J M, t = (n, shE, J, M, R) ∧ eqD I J ∧ eqDL L M ∧ CF J M R h T W H np len ∧ ∀ c, c < 4 → J 1045 c = nI (tkN (byK T W H len day tick 1) (byK T W H len day tick 2) np c)) (fun _ _ => False) 10 [(0, .ref 1040), (1, .int (nI day)), (2, .int (nI tick)), (3, .int (nI p))] [] (n, shE, J, M, R) := by
    refine jdown _ (fun p hpn ih => ?_)
    intro J M e1 e2 hC hv
    have htl : ∀ c, tkN (byK T W H len day tick 1) (byK T W H len day tick 2) p c ≤ p := fun c => cntN_le _ p
    rcases hh with rfl | rfl
    all_goals
    refine jx_iload_n dX0_takersOn_10 rfl ?_
    refine jx_aload_n dX0_takersOn_11 rfl ?_
    refine jx_getR dX0_takersOn_12 flX0_29 rfl rfl hRi ?_
    refine jx_getIE dX0_takersOn_15 flX0_84 rfl rfl (hC.2.1.2.2.1.1) ?_
    refine jx_icmpN_ge (a := p) (b := np) 103 dX0_takersOn_18 (by decide) (by omega) (by omega) (fun h18 => ?_) (fun h18 => ?_)
    · refine jx_aload_n dX0_takersOn_103 rfl ?_
      refine jx_getR dX0_takersOn_104 flX0_26 rfl rfl (hR _ _ _ rfl) ?_
      refine jx_aret dX0_takersOn_107 rfl (Or.inr ⟨_, rfl⟩) ?_
      have hpe : p = np := by omega
      subst hpe
      exact ⟨rfl, J, M, rfl, e1, e2, hC, hv⟩
    · have h18 : p < np := by omega
      have hpp := hRI.2.2.2.2.2.1 p h18
      obtain ⟨⟨hp0, hp0a⟩, ⟨hp1, hp1a, hp1b⟩, ⟨hp2, hp2a⟩, ⟨hp3, hp3a⟩, -, -⟩ := hpp
      have hrw : W * cN (T 1079 p) < W * H := by
        have h1 : W * (cN (T 1079 p) + 1) ≤ W * H := Nat.mul_le_mul_left W hp3a
        rw [Nat.mul_add, Nat.mul_one] at h1
        have := hT.1
        omega
      have hpa : ∀ k, 1 ≤ paceOf k (cN (T 1077 p)) 0 ∧ paceOf k (cN (T 1077 p)) 0 ≤ 7 := fun k => by unfold paceOf; split <;> omega
      refine jx_aload_n dX0_takersOn_21 rfl ?_
      refine jx_iload_n dX0_takersOn_22 rfl ?_
      refine jx_iconst (v := 1) dX0_takersOn_23 (by decide) ?_
      refine jx_iload_n dX0_takersOn_24 rfl ?_
      refine jx_aload_n dX0_takersOn_25 rfl ?_
      refine jx_getR dX0_takersOn_26 flX0_29 rfl rfl hRi ?_
      refine jx_getIE dX0_takersOn_29 flX0_57 rfl rfl (hC.2.1.2.2.2.1.2.1) ?_
      refine jx_iconst (v := 0) dX0_takersOn_32 (by decide) ?_
      refine jx_VRv (as := [.int _, .int _, .int _, .int _, .int _]) dX0_takersOn_33 mlX0_76 okX0_prepare viX0_prepare rfl rfl rfl rfl rfl (by decide) (Nat.le_of_ble_eq_true rfl) (tX0_prepare hW hR hC (kind := 1) (fog := 0) h18 (by omega) hd _ (by omega)) (fun t33 hq33 => ?_)
      obtain ⟨J1, M1, rfl, a1, b1, hC1, hPr1⟩ := hq33
      refine jx_aload_n dX0_takersOn_36 rfl ?_
      refine jx_iload_n dX0_takersOn_37 rfl ?_
      refine jx_VRi (as := [.int _]) dX0_takersOn_38 mlX0_80 okX0_firstArrival viX0_firstArrival rfl rfl rfl rfl rfl (by decide) (Nat.le_of_ble_eq_true rfl) (tX0_firstArrival hW hR hC1 hPr1 (hpa 1).1 (hpa 1).2 hrw ht) (fun x38 t38 hq38 => ?_)
      obtain ⟨rfl, N1, rfl, hN1⟩ := hq38
      have hff1 := ffa_eq (m := mK T W H len day (T 1072 7) 1 (cN (T 1078 p))) hT.1.1 hT.2.1.1 hrw (hpa 1).1 ht
      rw [hff1]
      have hl1 := sn_le (W := W) (H := H) (pace := paceOf 1 (cN (T 1077 p)) 0) (m := mK T W H len day (T 1072 7) 1 (cN (T 1078 p))) (W * cN (T 1079 p)) tick
      have hm1 := aI_m (v := sn W H (paceOf 1 (cN (T 1077 p)) 0) (mK T W H len day (T 1072 7) 1 (cN (T 1078 p))) (W * cN (T 1079 p)) tick) (by omega)
      have hD1 : CF J1 N1 R _ T W H np len := CF_k hC1 (eqC_r J1) (fun b j hb => hN1 b j (fun q => by rw [q] at hb; cases hb)) (fun _ => rfl) (fun _ => rfl) (hN1 1040 2 (by decide))
      refine jx_iconst (v := -1) dX0_takersOn_41 (by decide) ?_
      refine jx_icmp_ne 49 dX0_takersOn_42 (by decide) (fun h42 => ?_) (fun h42 => ?_)
      · refine jx_iconst (v := 1) dX0_takersOn_49 (by decide) ?_
        refine jx_istore dX0_takersOn_50 (by decide) ?_
        refine jx_aload_n dX0_takersOn_52 rfl ?_
        refine jx_iload_n dX0_takersOn_53 rfl ?_
        refine jx_iconst (v := 2) dX0_takersOn_54 (by decide) ?_
        refine jx_iload_n dX0_takersOn_55 rfl ?_
        refine jx_aload_n dX0_takersOn_56 rfl ?_
        refine jx_getR dX0_takersOn_57 flX0_29 rfl rfl hRi ?_
        refine jx_getIE dX0_takersOn_60 flX0_57 rfl rfl (hD1.2.1.2.2.2.1.2.1) ?_
        refine jx_iconst (v := 0) dX0_takersOn_63 (by decide) ?_
        refine jx_VRv (as := [.int _, .int _, .int _, .int _, .int _]) dX0_takersOn_64 mlX0_76 okX0_prepare viX0_prepare rfl rfl rfl rfl rfl (by decide) (Nat.le_of_ble_eq_true rfl) (tX0_prepare hW hR hD1 (kind := 2) (fog := 0) h18 (by omega) hd _ (by omega)) (fun t64 hq64 => ?_)
        obtain ⟨J2, M2, rfl, a2, b2, hC2, hPr2⟩ := hq64
        refine jx_iload dX0_takersOn_67 rfl ?_
        refine jx_aload_n dX0_takersOn_69 rfl ?_
        refine jx_iload_n dX0_takersOn_70 rfl ?_
        refine jx_VRi (as := [.int _]) dX0_takersOn_71 mlX0_80 okX0_firstArrival viX0_firstArrival rfl rfl rfl rfl rfl (by decide) (Nat.le_of_ble_eq_true rfl) (tX0_firstArrival hW hR hC2 hPr2 (hpa 2).1 (hpa 2).2 hrw ht) (fun x71 t71 hq71 => ?_)
        obtain ⟨rfl, N2, rfl, hN2⟩ := hq71
        have hff2 := ffa_eq (m := mK T W H len day (T 1072 7) 2 (cN (T 1078 p))) hT.1.1 hT.2.1.1 hrw (hpa 2).1 ht
        rw [hff2]
        have hl2 := sn_le (W := W) (H := H) (pace := paceOf 2 (cN (T 1077 p)) 0) (m := mK T W H len day (T 1072 7) 2 (cN (T 1078 p))) (W * cN (T 1079 p)) tick
        have hm2 := aI_m (v := sn W H (paceOf 2 (cN (T 1077 p)) 0) (mK T W H len day (T 1072 7) 2 (cN (T 1078 p))) (W * cN (T 1079 p)) tick) (by omega)
        have hD2 : CF J2 N2 R _ T W H np len := CF_k hC2 (eqC_r J2) (fun b j hb => hN2 b j (fun q => by rw [q] at hb; cases hb)) (fun _ => rfl) (fun _ => rfl) (hN2 1040 2 (by decide))
        refine jx_iconst (v := -1) dX0_takersOn_74 (by decide) ?_
        refine jx_icmp_ne 82 dX0_takersOn_75 (by decide) (fun h75 => ?_) (fun h75 => ?_)
        · refine jx_iconst (v := 2) dX0_takersOn_82 (by decide) ?_
          skip
          refine jx_iaddE (z := nI (3)) dX0_takersOn_83 (nI_add 1 2) ?_
          refine jx_istore dX0_takersOn_84 (by decide) ?_
          have hv45 : ∀ c, J2 1045 c = J 1045 c := fun c => (a2 1045 c rfl).trans (a1 1045 c rfl)
          have htc := htl
          refine jx_aload_n dX0_takersOn_86 rfl ?_
          refine jx_getR dX0_takersOn_87 flX0_26 rfl rfl (hR _ _ _ rfl) ?_
          refine jx_iload dX0_takersOn_90 rfl ?_
          refine jx_dup2 dX0_takersOn_92 rfl rfl ?_
          refine jx_ialdE (3) dX0_takersOn_93 rfl (rfl) (by omega) (by omega) ((hv45 3).trans (hv 3 (by decide))) ?_
          refine jx_iconst (v := 1) dX0_takersOn_94 (by decide) ?_
          refine jx_iaddE (z := nI ((tkN (byK T W H len day tick 1) (byK T W H len day tick 2) p 3) + 1)) dX0_takersOn_95 (nI_add (tkN (byK T W H len day tick 1) (byK T W H len day tick 2) p 3) 1) ?_
          refine jx_iastN (3) dX0_takersOn_96 rfl (rfl) (by omega) (by omega) ?_
          refine jx_iinc dX0_takersOn_97 rfl (v := nI (p + 1)) (nI_1 _) (by decide) ?_
          refine jx_goto 10 dX0_takersOn_100 (by decide) ?_
          have k1 : (byK T W H len day tick 1) p = true := decide_eq_true (fun q => h42 (hm1.mpr q))
          have k2 : (byK T W H len day tick 2) p = true := decide_eq_true (fun q => h75 (hm2.mpr q))
          have hcat : catN (byK T W H len day tick 1) (byK T W H len day tick 2) p = 3 := by unfold catN; rw [k1, k2]; rfl
          refine jx_ls (by exact ⟨rfl, rfl, rfl, rfl, trivial⟩) (ih h18 _ _ (eqD_u (eqD_t e1 (eqD_t (eqC_D a1) (eqC_D a2))) rfl) (eqDL_t e2 (eqDL_t (eqCL_D b1) (eqDL_t (eqCL_D (fun b j hb => hN1 b j (fun q => by rw [q] at hb; cases hb))) (eqDL_t (eqCL_D b2) (eqCL_D (fun b j hb => hN2 b j (fun q => by rw [q] at hb; cases hb))))))) (CF_o hD2 (fun b j z1 z2 _ _ _ => upI_nea (by omega)) (fun _ _ _ _ => rfl)) (fun c hc4 => ?_))
          by_cases z : c = 3
          · rw [z, upI_s]
            show nI (tkN _ _ p 3 + 1) = nI (tkN _ _ (p + 1) 3)
            unfold tkN
            rw [cntN, if_pos (decide_eq_true hcat)]
          · rw [upI_j z, hv45 c, hv c hc4]
            unfold tkN
            rw [cntN, if_neg (by rw [hcat]; exact fun q => z (of_decide_eq_true q).symm), Nat.add_zero]
        · refine jx_iconst (v := 0) dX0_takersOn_78 (by decide) ?_
          refine jx_goto 83 dX0_takersOn_79 (by decide) ?_
          skip
          refine jx_iaddE (z := nI (1)) dX0_takersOn_83 (nI_add 1 0) ?_
          refine jx_istore dX0_takersOn_84 (by decide) ?_
          have hv45 : ∀ c, J2 1045 c = J 1045 c := fun c => (a2 1045 c rfl).trans (a1 1045 c rfl)
          have htc := htl
          refine jx_aload_n dX0_takersOn_86 rfl ?_
          refine jx_getR dX0_takersOn_87 flX0_26 rfl rfl (hR _ _ _ rfl) ?_
          refine jx_iload dX0_takersOn_90 rfl ?_
          refine jx_dup2 dX0_takersOn_92 rfl rfl ?_
          refine jx_ialdE (1) dX0_takersOn_93 rfl (rfl) (by omega) (by omega) ((hv45 1).trans (hv 1 (by decide))) ?_
          refine jx_iconst (v := 1) dX0_takersOn_94 (by decide) ?_
          refine jx_iaddE (z := nI ((tkN (byK T W H len day tick 1) (byK T W H len day tick 2) p 1) + 1)) dX0_takersOn_95 (nI_add (tkN (byK T W H len day tick 1) (byK T W H len day tick 2) p 1) 1) ?_
          refine jx_iastN (1) dX0_takersOn_96 rfl (rfl) (by omega) (by omega) ?_
          refine jx_iinc dX0_takersOn_97 rfl (v := nI (p + 1)) (nI_1 _) (by decide) ?_
          refine jx_goto 10 dX0_takersOn_100 (by decide) ?_
          have k1 : (byK T W H len day tick 1) p = true := decide_eq_true (fun q => h42 (hm1.mpr q))
          have k2 : (byK T W H len day tick 2) p = false := decide_eq_false (fun q => q (hm2.mp h75))
          have hcat : catN (byK T W H len day tick 1) (byK T W H len day tick 2) p = 1 := by unfold catN; rw [k1, k2]; rfl
          refine jx_ls (by exact ⟨rfl, rfl, rfl, rfl, trivial⟩) (ih h18 _ _ (eqD_u (eqD_t e1 (eqD_t (eqC_D a1) (eqC_D a2))) rfl) (eqDL_t e2 (eqDL_t (eqCL_D b1) (eqDL_t (eqCL_D (fun b j hb => hN1 b j (fun q => by rw [q] at hb; cases hb))) (eqDL_t (eqCL_D b2) (eqCL_D (fun b j hb => hN2 b j (fun q => by rw [q] at hb; cases hb))))))) (CF_o hD2 (fun b j z1 z2 _ _ _ => upI_nea (by omega)) (fun _ _ _ _ => rfl)) (fun c hc4 => ?_))
          by_cases z : c = 1
          · rw [z, upI_s]
            show nI (tkN _ _ p 1 + 1) = nI (tkN _ _ (p + 1) 1)
            unfold tkN
            rw [cntN, if_pos (decide_eq_true hcat)]
          · rw [upI_j z, hv45 c, hv c hc4]
            unfold tkN
            rw [cntN, if_neg (by rw [hcat]; exact fun q => z (of_decide_eq_true q).symm), Nat.add_zero]
      · refine jx_iconst (v := 0) dX0_takersOn_45 (by decide) ?_
        refine jx_goto 50 dX0_takersOn_46 (by decide) ?_
        refine jx_istore dX0_takersOn_50 (by decide) ?_
        refine jx_aload_n dX0_takersOn_52 rfl ?_
        refine jx_iload_n dX0_takersOn_53 rfl ?_
        refine jx_iconst (v := 2) dX0_takersOn_54 (by decide) ?_
        refine jx_iload_n dX0_takersOn_55 rfl ?_
        refine jx_aload_n dX0_takersOn_56 rfl ?_
        refine jx_getR dX0_takersOn_57 flX0_29 rfl rfl hRi ?_
        refine jx_getIE dX0_takersOn_60 flX0_57 rfl rfl (hD1.2.1.2.2.2.1.2.1) ?_
        refine jx_iconst (v := 0) dX0_takersOn_63 (by decide) ?_
        refine jx_VRv (as := [.int _, .int _, .int _, .int _, .int _]) dX0_takersOn_64 mlX0_76 okX0_prepare viX0_prepare rfl rfl rfl rfl rfl (by decide) (Nat.le_of_ble_eq_true rfl) (tX0_prepare hW hR hD1 (kind := 2) (fog := 0) h18 (by omega) hd _ (by omega)) (fun t64 hq64 => ?_)
        obtain ⟨J2, M2, rfl, a2, b2, hC2, hPr2⟩ := hq64
        refine jx_iload dX0_takersOn_67 rfl ?_
        refine jx_aload_n dX0_takersOn_69 rfl ?_
        refine jx_iload_n dX0_takersOn_70 rfl ?_
        refine jx_VRi (as := [.int _]) dX0_takersOn_71 mlX0_80 okX0_firstArrival viX0_firstArrival rfl rfl rfl rfl rfl (by decide) (Nat.le_of_ble_eq_true rfl) (tX0_firstArrival hW hR hC2 hPr2 (hpa 2).1 (hpa 2).2 hrw ht) (fun x71 t71 hq71 => ?_)
        obtain ⟨rfl, N2, rfl, hN2⟩ := hq71
        have hff2 := ffa_eq (m := mK T W H len day (T 1072 7) 2 (cN (T 1078 p))) hT.1.1 hT.2.1.1 hrw (hpa 2).1 ht
        rw [hff2]
        have hl2 := sn_le (W := W) (H := H) (pace := paceOf 2 (cN (T 1077 p)) 0) (m := mK T W H len day (T 1072 7) 2 (cN (T 1078 p))) (W * cN (T 1079 p)) tick
        have hm2 := aI_m (v := sn W H (paceOf 2 (cN (T 1077 p)) 0) (mK T W H len day (T 1072 7) 2 (cN (T 1078 p))) (W * cN (T 1079 p)) tick) (by omega)
        have hD2 : CF J2 N2 R _ T W H np len := CF_k hC2 (eqC_r J2) (fun b j hb => hN2 b j (fun q => by rw [q] at hb; cases hb)) (fun _ => rfl) (fun _ => rfl) (hN2 1040 2 (by decide))
        refine jx_iconst (v := -1) dX0_takersOn_74 (by decide) ?_
        refine jx_icmp_ne 82 dX0_takersOn_75 (by decide) (fun h75 => ?_) (fun h75 => ?_)
        · refine jx_iconst (v := 2) dX0_takersOn_82 (by decide) ?_
          skip
          refine jx_iaddE (z := nI (2)) dX0_takersOn_83 (nI_add 0 2) ?_
          refine jx_istore dX0_takersOn_84 (by decide) ?_
          have hv45 : ∀ c, J2 1045 c = J 1045 c := fun c => (a2 1045 c rfl).trans (a1 1045 c rfl)
          have htc := htl
          refine jx_aload_n dX0_takersOn_86 rfl ?_
          refine jx_getR dX0_takersOn_87 flX0_26 rfl rfl (hR _ _ _ rfl) ?_
          refine jx_iload dX0_takersOn_90 rfl ?_
          refine jx_dup2 dX0_takersOn_92 rfl rfl ?_
          refine jx_ialdE (2) dX0_takersOn_93 rfl (rfl) (by omega) (by omega) ((hv45 2).trans (hv 2 (by decide))) ?_
          refine jx_iconst (v := 1) dX0_takersOn_94 (by decide) ?_
          refine jx_iaddE (z := nI ((tkN (byK T W H len day tick 1) (byK T W H len day tick 2) p 2) + 1)) dX0_takersOn_95 (nI_add (tkN (byK T W H len day tick 1) (byK T W H len day tick 2) p 2) 1) ?_
          refine jx_iastN (2) dX0_takersOn_96 rfl (rfl) (by omega) (by omega) ?_
          refine jx_iinc dX0_takersOn_97 rfl (v := nI (p + 1)) (nI_1 _) (by decide) ?_
          refine jx_goto 10 dX0_takersOn_100 (by decide) ?_
          have k1 : (byK T W H len day tick 1) p = false := decide_eq_false (fun q => q (hm1.mp h42))
          have k2 : (byK T W H len day tick 2) p = true := decide_eq_true (fun q => h75 (hm2.mpr q))
          have hcat : catN (byK T W H len day tick 1) (byK T W H len day tick 2) p = 2 := by unfold catN; rw [k1, k2]; rfl
          refine jx_ls (by exact ⟨rfl, rfl, rfl, rfl, trivial⟩) (ih h18 _ _ (eqD_u (eqD_t e1 (eqD_t (eqC_D a1) (eqC_D a2))) rfl) (eqDL_t e2 (eqDL_t (eqCL_D b1) (eqDL_t (eqCL_D (fun b j hb => hN1 b j (fun q => by rw [q] at hb; cases hb))) (eqDL_t (eqCL_D b2) (eqCL_D (fun b j hb => hN2 b j (fun q => by rw [q] at hb; cases hb))))))) (CF_o hD2 (fun b j z1 z2 _ _ _ => upI_nea (by omega)) (fun _ _ _ _ => rfl)) (fun c hc4 => ?_))
          by_cases z : c = 2
          · rw [z, upI_s]
            show nI (tkN _ _ p 2 + 1) = nI (tkN _ _ (p + 1) 2)
            unfold tkN
            rw [cntN, if_pos (decide_eq_true hcat)]
          · rw [upI_j z, hv45 c, hv c hc4]
            unfold tkN
            rw [cntN, if_neg (by rw [hcat]; exact fun q => z (of_decide_eq_true q).symm), Nat.add_zero]
        · refine jx_iconst (v := 0) dX0_takersOn_78 (by decide) ?_
          refine jx_goto 83 dX0_takersOn_79 (by decide) ?_
          skip
          refine jx_iaddE (z := nI (0)) dX0_takersOn_83 (nI_add 0 0) ?_
          refine jx_istore dX0_takersOn_84 (by decide) ?_
          have hv45 : ∀ c, J2 1045 c = J 1045 c := fun c => (a2 1045 c rfl).trans (a1 1045 c rfl)
          have htc := htl
          refine jx_aload_n dX0_takersOn_86 rfl ?_
          refine jx_getR dX0_takersOn_87 flX0_26 rfl rfl (hR _ _ _ rfl) ?_
          refine jx_iload dX0_takersOn_90 rfl ?_
          refine jx_dup2 dX0_takersOn_92 rfl rfl ?_
          refine jx_ialdE (0) dX0_takersOn_93 rfl (rfl) (by omega) (by omega) ((hv45 0).trans (hv 0 (by decide))) ?_
          refine jx_iconst (v := 1) dX0_takersOn_94 (by decide) ?_
          refine jx_iaddE (z := nI ((tkN (byK T W H len day tick 1) (byK T W H len day tick 2) p 0) + 1)) dX0_takersOn_95 (nI_add (tkN (byK T W H len day tick 1) (byK T W H len day tick 2) p 0) 1) ?_
          refine jx_iastN (0) dX0_takersOn_96 rfl (rfl) (by omega) (by omega) ?_
          refine jx_iinc dX0_takersOn_97 rfl (v := nI (p + 1)) (nI_1 _) (by decide) ?_
          refine jx_goto 10 dX0_takersOn_100 (by decide) ?_
          have k1 : (byK T W H len day tick 1) p = false := decide_eq_false (fun q => q (hm1.mp h42))
          have k2 : (byK T W H len day tick 2) p = false := decide_eq_false (fun q => q (hm2.mp h75))
          have hcat : catN (byK T W H len day tick 1) (byK T W H len day tick 2) p = 0 := by unfold catN; rw [k1, k2]; rfl
          refine jx_ls (by exact ⟨rfl, rfl, rfl, rfl, trivial⟩) (ih h18 _ _ (eqD_u (eqD_t e1 (eqD_t (eqC_D a1) (eqC_D a2))) rfl) (eqDL_t e2 (eqDL_t (eqCL_D b1) (eqDL_t (eqCL_D (fun b j hb => hN1 b j (fun q => by rw [q] at hb; cases hb))) (eqDL_t (eqCL_D b2) (eqCL_D (fun b j hb => hN2 b j (fun q => by rw [q] at hb; cases hb))))))) (CF_o hD2 (fun b j z1 z2 _ _ _ => upI_nea (by omega)) (fun _ _ _ _ => rfl)) (fun c hc4 => ?_))
          by_cases z : c = 0
          · rw [z, upI_s]
            show nI (tkN _ _ p 0 + 1) = nI (tkN _ _ (p + 1) 0)
            unfold tkN
            rw [cntN, if_pos (decide_eq_true hcat)]
          · rw [upI_j z, hv45 c, hv c hc4]
            unfold tkN
            rw [cntN, if_neg (by rw [hcat]; exact fun q => z (of_decide_eq_true q).symm), Nat.add_zero]
  rcases hh with rfl | rfl
  all_goals
    refine jx_aload_n dX0_takersOn_0 rfl ?_
    refine jx_getR dX0_takersOn_1 flX0_26 rfl rfl (hR _ _ _ rfl) ?_
    refine jx_iconst (v := 0) dX0_takersOn_4 (by decide) ?_
    refine jx_Sv (as := [.ref _, .int _]) dX0_takersOn_5 mlX0_37 okJ7_fill_53178 stJ7_fill_53178 rfl rfl (by decide) (Nat.le_of_ble_eq_true rfl) (tJ7_fill_53178 hW 0 rfl (by decide)) ?_
    refine jx_iconst (v := 0) dX0_takersOn_8 (by decide) ?_
    refine jx_istore_n dX0_takersOn_9 rfl (by decide) ?_
    refine jx_ls (by exact ⟨rfl, rfl, rfl, rfl, trivial⟩) (key 0 (by omega) _ L (fun b j hb => ?_) (eqDL_r L) (CF_o hC0 (fun b j z1 z2 _ _ _ => fl_ne (by omega)) (fun _ _ _ _ => rfl)) (fun c hc => ?_))
    · exact fl_ne (fun q => by rw [q] at hb; cases hb)
    · rw [fl_in hc]; rfl
set_option maxHeartbeats 1000000 in
set_option maxRecDepth 20000 in
theorem tX10_gainOfHorses (hW : jWok w l) (hR : RS R) {t1 t2 t3 : Nat} (g1 : I 1045 1 = nI t1) (g2 : I 1045 2 = nI t2) (g3 : I 1045 3 = nI t3) (hb : t1 ≤ 6 ∧ t2 ≤ 6 ∧ t3 ≤ 6) {hr st : Nat} (hh : hr ≤ 9) (hs : st ≤ 9) : jCD w l mX10_gainOfHorses 1 [.ref 1045, .int (nI hr), .int (nI st)] (n, shE, I, L, R) (some (.int (nI (hr * (t1 + (if hr ≤ st then t3 else 0)))))) (n, shE, I, L, R) := by
  refine jCD_of hW (by decide) rfl (Nat.le_of_ble_eq_true rfl) ?_
  refine jx_iload_n dX10_gainOfHorses_0 rfl ?_
  refine jx_iload_n dX10_gainOfHorses_1 rfl ?_
  refine jx_icmpN_gt (a := hr) (b := st) 11 dX10_gainOfHorses_2 (by decide) (by omega) (by omega) (fun h2 => ?_) (fun h2 => ?_)
  · refine jx_iconst (v := 0) dX10_gainOfHorses_11 (by decide) ?_
    refine jx_istore_n dX10_gainOfHorses_12 rfl (by decide) ?_
    refine jx_iload_n dX10_gainOfHorses_13 rfl ?_
    refine jx_aload_n dX10_gainOfHorses_14 rfl ?_
    refine jx_iconst (v := 1) dX10_gainOfHorses_15 (by decide) ?_
    refine jx_ialdE (1) dX10_gainOfHorses_16 rfl (rfl) (by omega) (by omega) (g1) ?_
    refine jx_iload_n dX10_gainOfHorses_17 rfl ?_
    refine jx_iaddE (z := nI (t1 + 0)) dX10_gainOfHorses_18 (nI_add t1 0) ?_
    refine jx_imulE (z := nI (hr * (t1 + 0))) dX10_gainOfHorses_19 (pk_mul hr (t1 + 0)) ?_
    refine jx_iret dX10_gainOfHorses_20 rfl ?_
    refine ⟨?_, rfl⟩
    first | rw [if_pos (by omega)] | rw [if_neg (by omega)]
  · refine jx_aload_n dX10_gainOfHorses_5 rfl ?_
    refine jx_iconst (v := 3) dX10_gainOfHorses_6 (by decide) ?_
    refine jx_ialdE (3) dX10_gainOfHorses_7 rfl (rfl) (by omega) (by omega) (g3) ?_
    refine jx_goto 12 dX10_gainOfHorses_8 (by decide) ?_
    refine jx_istore_n dX10_gainOfHorses_12 rfl (by decide) ?_
    refine jx_iload_n dX10_gainOfHorses_13 rfl ?_
    refine jx_aload_n dX10_gainOfHorses_14 rfl ?_
    refine jx_iconst (v := 1) dX10_gainOfHorses_15 (by decide) ?_
    refine jx_ialdE (1) dX10_gainOfHorses_16 rfl (rfl) (by omega) (by omega) (g1) ?_
    refine jx_iload_n dX10_gainOfHorses_17 rfl ?_
    refine jx_iaddE (z := nI (t1 + t3)) dX10_gainOfHorses_18 (nI_add t1 t3) ?_
    refine jx_imulE (z := nI (hr * (t1 + t3))) dX10_gainOfHorses_19 (pk_mul hr (t1 + t3)) ?_
    refine jx_iret dX10_gainOfHorses_20 rfl ?_
    refine ⟨?_, rfl⟩
    first | rw [if_pos (by omega)] | rw [if_neg (by omega)]
set_option maxHeartbeats 1000000 in
set_option maxRecDepth 20000 in
theorem tX10_gainOfStilts (hW : jWok w l) (hR : RS R) {t1 t2 t3 : Nat} (g1 : I 1045 1 = nI t1) (g2 : I 1045 2 = nI t2) (g3 : I 1045 3 = nI t3) (hb : t1 ≤ 6 ∧ t2 ≤ 6 ∧ t3 ≤ 6) {hr st : Nat} (hh : hr ≤ 9) (hs : st ≤ 9) : jCD w l mX10_gainOfStilts 1 [.ref 1045, .int (nI hr), .int (nI st)] (n, shE, I, L, R) (some (.int (nI (st * (t2 + (if st < hr then t3 else 0)))))) (n, shE, I, L, R) := by
  refine jCD_of hW (by decide) rfl (Nat.le_of_ble_eq_true rfl) ?_
  refine jx_iload_n dX10_gainOfStilts_0 rfl ?_
  refine jx_iload_n dX10_gainOfStilts_1 rfl ?_
  refine jx_icmpN_ge (a := st) (b := hr) 11 dX10_gainOfStilts_2 (by decide) (by omega) (by omega) (fun h2 => ?_) (fun h2 => ?_)
  · refine jx_iconst (v := 0) dX10_gainOfStilts_11 (by decide) ?_
    refine jx_istore_n dX10_gainOfStilts_12 rfl (by decide) ?_
    refine jx_iload_n dX10_gainOfStilts_13 rfl ?_
    refine jx_aload_n dX10_gainOfStilts_14 rfl ?_
    refine jx_iconst (v := 2) dX10_gainOfStilts_15 (by decide) ?_
    refine jx_ialdE (2) dX10_gainOfStilts_16 rfl (rfl) (by omega) (by omega) (g2) ?_
    refine jx_iload_n dX10_gainOfStilts_17 rfl ?_
    refine jx_iaddE (z := nI (t2 + 0)) dX10_gainOfStilts_18 (nI_add t2 0) ?_
    refine jx_imulE (z := nI (st * (t2 + 0))) dX10_gainOfStilts_19 (pk_mul st (t2 + 0)) ?_
    refine jx_iret dX10_gainOfStilts_20 rfl ?_
    refine ⟨?_, rfl⟩
    first | rw [if_pos (by omega)] | rw [if_neg (by omega)]
  · refine jx_aload_n dX10_gainOfStilts_5 rfl ?_
    refine jx_iconst (v := 3) dX10_gainOfStilts_6 (by decide) ?_
    refine jx_ialdE (3) dX10_gainOfStilts_7 rfl (rfl) (by omega) (by omega) (g3) ?_
    refine jx_goto 12 dX10_gainOfStilts_8 (by decide) ?_
    refine jx_istore_n dX10_gainOfStilts_12 rfl (by decide) ?_
    refine jx_iload_n dX10_gainOfStilts_13 rfl ?_
    refine jx_aload_n dX10_gainOfStilts_14 rfl ?_
    refine jx_iconst (v := 2) dX10_gainOfStilts_15 (by decide) ?_
    refine jx_ialdE (2) dX10_gainOfStilts_16 rfl (rfl) (by omega) (by omega) (g2) ?_
    refine jx_iload_n dX10_gainOfStilts_17 rfl ?_
    refine jx_iaddE (z := nI (t2 + t3)) dX10_gainOfStilts_18 (nI_add t2 t3) ?_
    refine jx_imulE (z := nI (st * (t2 + t3))) dX10_gainOfStilts_19 (pk_mul st (t2 + t3)) ?_
    refine jx_iret dX10_gainOfStilts_20 rfl ?_
    refine ⟨?_, rfl⟩
    first | rw [if_pos (by omega)] | rw [if_neg (by omega)]
set_option maxHeartbeats 1000000 in
set_option maxRecDepth 20000 in
theorem tX10_rests (hW : jWok w l) (hR : RS R) {t1 t2 t3 : Nat} (g1 : I 1045 1 = nI t1) (g2 : I 1045 2 = nI t2) (g3 : I 1045 3 = nI t3) (hb : t1 ≤ 6 ∧ t2 ≤ 6 ∧ t3 ≤ 6) {bh bs : Nat → Bool} {np : Nat} (e1 : t1 = tkN bh bs np 1) (e2 : t2 = tkN bh bs np 2) (e3 : t3 = tkN bh bs np 3) {hr st : Nat} (hh : hr ≤ 9) (hs : st ≤ 9) : jCD w l mX10_rests 2 [.ref 1045, .int (nI hr), .int (nI st)] (n, shE, I, L, R) (some (.int (jb (rst bh bs np hr st)))) (n, shE, I, L, R) := by
  refine jCD_of hW (by decide) rfl (Nat.le_of_ble_eq_true rfl) ?_
  have hgH : ∀ a b, a * (t1 + (if a ≤ b then t3 else 0)) = gH bh bs np a b := fun a b => by unfold gH; rw [tk_gH, e1, e3]
  have hgS : ∀ a b, b * (t2 + (if b < a then t3 else 0)) = gS bh bs np a b := fun a b => by unfold gS; rw [tk_gS, e2, e3]
  have hlH : ∀ a b, a ≤ 9 → gH bh bs np a b ≤ 9 * 12 := fun a b ha => by rw [← hgH]; exact Nat.mul_le_mul ha (by split <;> omega)
  have hlS : ∀ a b, b ≤ 9 → gS bh bs np a b ≤ 9 * 12 := fun a b ha => by rw [← hgS]; exact Nat.mul_le_mul ha (by split <;> omega)
  have hH0 := hlH hr st hh
  have hS0 := hlS hr st hs
  have key : ∀ k, k ≤ 9 → (∀ j, j < k → (decide (gH bh bs np hr st < gH bh bs np (j + 1) st) || decide (gS bh bs np hr st < gS bh bs np hr (j + 1))) = false) → jWP w l mX10_rests 2 0 0 (fun r t => r = some (.int (jb (rst bh bs np hr st))) ∧ t = (n, shE, I, L, R)) (fun _ _ => False) 18 [(0, .ref 1045), (1, .int (nI hr)), (2, .int (nI st)), (3, .int (nI (gH bh bs np hr st))), (4, .int (nI (gS bh bs np hr st))), (5, .int (nI (k + 1)))] [] (n, shE, I, L, R) := by
    refine jdown _ (fun k hk ih hj => ?_)
    refine jx_iload dX10_rests_18 rfl ?_
    refine jx_bipush (v := 9) dX10_rests_20 (by decide) ?_
    refine jx_icmpN_gt (a := (k + 1)) (b := 9) 56 dX10_rests_22 (by decide) (by omega) (by omega) (fun h22 => ?_) (fun h22 => ?_)
    · refine jx_iconst (v := 1) dX10_rests_56 (by decide) ?_
      refine jx_zret dX10_rests_57 rfl ?_ ?_
      · first | exact Or.inl rfl | exact Or.inr rfl | exact jb_or _
      refine ⟨?_, rfl⟩
      unfold rst
      rw [anyN_f.mpr (fun j hj2 => hj j (by omega))]
      rfl
    · have hH1 := hlH (k + 1) st (by omega)
      have hS1 := hlS hr (k + 1) (by omega)
      refine jx_aload_n dX10_rests_25 rfl ?_
      refine jx_iload dX10_rests_26 rfl ?_
      refine jx_iload_n dX10_rests_28 rfl ?_
      refine jx_Si (as := [.ref _, .int _, .int _]) dX10_rests_29 mlX10_390 okX10_gainOfHorses stX10_gainOfHorses rfl rfl (by decide) (Nat.le_of_ble_eq_true rfl) (tX10_gainOfHorses hW hR g1 g2 g3 hb (hr := k + 1) (st := st) (by omega) (by omega)) ?_
      rw [hgH]
      refine jx_iload_n dX10_rests_32 rfl ?_
      refine jx_icmpN_gt (a := (gH bh bs np (k + 1) st)) (b := (gH bh bs np hr st)) 48 dX10_rests_33 (by decide) (by omega) (by omega) (fun h33 => ?_) (fun h33 => ?_)
      · refine jx_iconst (v := 0) dX10_rests_48 (by decide) ?_
        refine jx_zret dX10_rests_49 rfl ?_ ?_
        · first | exact Or.inl rfl | exact Or.inr rfl | exact jb_or _
        refine ⟨?_, rfl⟩
        unfold rst
        rw [anyN_of (k := k) (g := fun k => decide (gH bh bs np hr st < gH bh bs np (k + 1) st) || decide (gS bh bs np hr st < gS bh bs np hr (k + 1))) (by show (_ || _) = true; first | rw [decide_eq_true h33, Bool.true_or] | rw [decide_eq_true (show gS bh bs np hr st < gS bh bs np hr (k + 1) from h45), Bool.or_true]) (by omega)]
        rfl
      · refine jx_aload_n dX10_rests_36 rfl ?_
        refine jx_iload_n dX10_rests_37 rfl ?_
        refine jx_iload dX10_rests_38 rfl ?_
        refine jx_Si (as := [.ref _, .int _, .int _]) dX10_rests_40 mlX10_394 okX10_gainOfStilts stX10_gainOfStilts rfl rfl (by decide) (Nat.le_of_ble_eq_true rfl) (tX10_gainOfStilts hW hR g1 g2 g3 hb (hr := hr) (st := k + 1) (by omega) (by omega)) ?_
        rw [hgS]
        refine jx_iload dX10_rests_43 rfl ?_
        refine jx_icmpN_le (a := (gS bh bs np hr (k + 1))) (b := (gS bh bs np hr st)) 50 dX10_rests_45 (by decide) (by omega) (by omega) (fun h45 => ?_) (fun h45 => ?_)
        · refine jx_iinc dX10_rests_50 rfl (v := nI ((k + 1) + 1)) (nI_1 _) (by decide) ?_
          refine jx_goto 18 dX10_rests_53 (by decide) ?_
          exact jx_ls (by exact ⟨rfl, rfl, rfl, rfl, rfl, rfl, trivial⟩) (ih (by omega) (fun j hj2 => by
            by_cases z : j = k
            · rw [z, decide_eq_false (by omega), decide_eq_false (by omega)]; rfl
            · exact hj j (by omega)))
        · refine jx_iconst (v := 0) dX10_rests_48 (by decide) ?_
          refine jx_zret dX10_rests_49 rfl ?_ ?_
          · first | exact Or.inl rfl | exact Or.inr rfl | exact jb_or _
          refine ⟨?_, rfl⟩
          unfold rst
          rw [anyN_of (k := k) (g := fun k => decide (gH bh bs np hr st < gH bh bs np (k + 1) st) || decide (gS bh bs np hr st < gS bh bs np hr (k + 1))) (by show (_ || _) = true; first | rw [decide_eq_true h33, Bool.true_or] | rw [decide_eq_true (show gS bh bs np hr st < gS bh bs np hr (k + 1) from h45), Bool.or_true]) (by omega)]
          rfl
  refine jx_aload_n dX10_rests_0 rfl ?_
  refine jx_iload_n dX10_rests_1 rfl ?_
  refine jx_iload_n dX10_rests_2 rfl ?_
  refine jx_Si (as := [.ref _, .int _, .int _]) dX10_rests_3 mlX10_390 okX10_gainOfHorses stX10_gainOfHorses rfl rfl (by decide) (Nat.le_of_ble_eq_true rfl) (tX10_gainOfHorses hW hR g1 g2 g3 hb (hr := hr) (st := st) (by omega) (by omega)) ?_
  rw [hgH]
  refine jx_istore_n dX10_rests_6 rfl (by decide) ?_
  refine jx_aload_n dX10_rests_7 rfl ?_
  refine jx_iload_n dX10_rests_8 rfl ?_
  refine jx_iload_n dX10_rests_9 rfl ?_
  refine jx_Si (as := [.ref _, .int _, .int _]) dX10_rests_10 mlX10_394 okX10_gainOfStilts stX10_gainOfStilts rfl rfl (by decide) (Nat.le_of_ble_eq_true rfl) (tX10_gainOfStilts hW hR g1 g2 g3 hb (hr := hr) (st := st) (by omega) (by omega)) ?_
  rw [hgS]
  refine jx_istore dX10_rests_13 (by decide) ?_
  refine jx_iconst (v := 1) dX10_rests_15 (by decide) ?_
  refine jx_istore dX10_rests_16 (by decide) ?_
  exact jx_ls (by exact ⟨rfl, rfl, rfl, rfl, rfl, rfl, trivial⟩) (key 0 (by omega) (fun j hj => absurd hj (by omega)))
end CP1
