/-! THE REFERENCE: the water, the quicksand -/
def RQ (I : Nat → Nat → Int32) (W H : Nat) : Prop := MT I W H ∧ (I 1072 4 = nI (cN (I 1072 4)) ∧ cN (I 1072 4) ≤ 12) ∧ ∀ k, k < cN (I 1072 4) → I 1075 k = nI (cN (I 1075 k)) ∧ cN (I 1075 k) < W * H
theorem fl_put {I : Nat → Nat → Int32} {a m p : Nat} {f : Nat → Int32} {v : Int32} (h : p < m) : upI (fl I a f m) a p v = fl I a (fun c => if c = p then v else f c) m := by
  funext b j
  unfold upI fl
  by_cases h1 : b = a
  · by_cases h2 : j = p
    · simp [h1, h2, h]
    · simp [h1, h2]
  · simp [h1]
theorem wdep_le {code : Nat → Int32} {len : Nat} (h : wok code len) : ∀ k, k ≤ len → wdep code k ≤ 64
  | 0, _ => Nat.zero_le _
  | k + 1, hk => by
    have ih := wdep_le h k (by omega)
    have hh := h k (by omega)
    unfold wdep
    by_cases h1 : -20 < code k
    · rw [if_pos h1] at hh ⊢; omega
    · rw [if_neg h1]; split <;> omega
section RC
variable {w : jWD} {l : Launch} {n : Nat} {I : Nat → Nat → Int32} {L : Nat → Nat → Int64} {R : Nat → Nat → Option Nat}

set_option maxHeartbeats 1000000 in
set_option maxRecDepth 20000 in
theorem tX11_isShore (hW : jWok w l) (hR : RS R) {W H : Nat} (hT : MT I W H) {c : Nat} (hc : c < 2 ^ 31)  : jCD w l mX11_isShore 1 [.ref 1069, .int (nI c)] (n, shE, I, L, R) (some (.int (jb (decide (c % W = 0))))) (n, shE, I, L, R) := by
  refine jCD_of hW (by decide) rfl (Nat.le_of_ble_eq_true rfl) ?_
  have hz := hT.wh
  have hw3 := hT.2.2.1
  have hw9 := hT.2.2.2.1
  have hh1 := hT.2.2.2.2.1
  have hh7 := hT.2.2.2.2.2
  refine jx_iload_n dX11_isShore_0 rfl ?_
  refine jx_aload_n dX11_isShore_1 rfl ?_
  refine jx_getR dX11_isShore_2 flX11_34 rfl rfl (hR _ _ _ rfl) ?_
  refine jx_iconst (v := 0) dX11_isShore_5 (by decide) ?_
  refine jx_ialdE (0) dX11_isShore_6 rfl (rfl) (by omega) (by omega) (hT.1) ?_
  refine jx_iremE (z := nI (c % W)) dX11_isShore_7 (nI_ne0 (n := W) (by omega) (by omega)) (pk_rem (a := c) (d := W) (by omega) (by omega) (by omega)) ?_
  have hm := Nat.mod_lt c (y := W) (by omega)
  refine jx_ifN_ne (a := (c % W)) 15 dX11_isShore_8 (by decide) (by omega) (fun h8 => ?_) (fun h8 => ?_)
  · refine jx_iconst (v := 0) dX11_isShore_15 (by decide) ?_
    refine jx_zret dX11_isShore_16 rfl ?_ ?_
    · first | exact Or.inl rfl | exact Or.inr rfl | exact jb_or _
    refine ⟨?_, rfl⟩
    simp [h8, jb]
  · refine jx_iconst (v := 1) dX11_isShore_11 (by decide) ?_
    refine jx_goto 16 dX11_isShore_12 (by decide) ?_
    refine jx_zret dX11_isShore_16 rfl ?_ ?_
    · first | exact Or.inl rfl | exact Or.inr rfl | exact jb_or _
    refine ⟨?_, rfl⟩
    simp [h8, jb]
set_option maxHeartbeats 1000000 in
set_option maxRecDepth 20000 in
theorem tX11_isIsland (hW : jWok w l) (hR : RS R) {W H : Nat} (hT : MT I W H) {c : Nat} (hc : c < 2 ^ 31)  : jCD w l mX11_isIsland 1 [.ref 1069, .int (nI c)] (n, shE, I, L, R) (some (.int (jb (decide (c % W = W - 1))))) (n, shE, I, L, R) := by
  refine jCD_of hW (by decide) rfl (Nat.le_of_ble_eq_true rfl) ?_
  have hz := hT.wh
  have hw3 := hT.2.2.1
  have hw9 := hT.2.2.2.1
  have hh1 := hT.2.2.2.2.1
  have hh7 := hT.2.2.2.2.2
  refine jx_iload_n dX11_isIsland_0 rfl ?_
  refine jx_aload_n dX11_isIsland_1 rfl ?_
  refine jx_getR dX11_isIsland_2 flX11_34 rfl rfl (hR _ _ _ rfl) ?_
  refine jx_iconst (v := 0) dX11_isIsland_5 (by decide) ?_
  refine jx_ialdE (0) dX11_isIsland_6 rfl (rfl) (by omega) (by omega) (hT.1) ?_
  refine jx_iremE (z := nI (c % W)) dX11_isIsland_7 (nI_ne0 (n := W) (by omega) (by omega)) (pk_rem (a := c) (d := W) (by omega) (by omega) (by omega)) ?_
  refine jx_aload_n dX11_isIsland_8 rfl ?_
  refine jx_getR dX11_isIsland_9 flX11_34 rfl rfl (hR _ _ _ rfl) ?_
  refine jx_iconst (v := 0) dX11_isIsland_12 (by decide) ?_
  refine jx_ialdE (0) dX11_isIsland_13 rfl (rfl) (by omega) (by omega) (hT.1) ?_
  refine jx_iconst (v := 1) dX11_isIsland_14 (by decide) ?_
  refine jx_isubE (z := nI (W - 1)) dX11_isIsland_15 (pk_sub (a := W) (b := 1) (by omega)) ?_
  have hm := Nat.mod_lt c (y := W) (by omega)
  refine jx_icmpN_ne (a := (c % W)) (b := (W - 1)) 23 dX11_isIsland_16 (by decide) (by omega) (by omega) (fun h16 => ?_) (fun h16 => ?_)
  · refine jx_iconst (v := 0) dX11_isIsland_23 (by decide) ?_
    refine jx_zret dX11_isIsland_24 rfl ?_ ?_
    · first | exact Or.inl rfl | exact Or.inr rfl | exact jb_or _
    refine ⟨?_, rfl⟩
    simp [h16, jb]
  · refine jx_iconst (v := 1) dX11_isIsland_19 (by decide) ?_
    refine jx_goto 24 dX11_isIsland_20 (by decide) ?_
    refine jx_zret dX11_isIsland_24 rfl ?_ ?_
    · first | exact Or.inl rfl | exact Or.inr rfl | exact jb_or _
    refine ⟨?_, rfl⟩
    simp [h16, jb]
set_option maxHeartbeats 1000000 in
set_option maxRecDepth 20000 in
theorem tX11_round (hW : jWok w l) {m : Nat} (h0 : 0 < m) (h9 : m ≤ 9) (v : Int32) (σ : jHS)  : jCD w l mX11_round 1 [.int v, .int (nI m)] σ (some (.int (nI (rmod v.toInt m)))) σ := by
  refine jCD_of hW (by decide) rfl (Nat.le_of_ble_eq_true rfl) ?_
  refine jx_iload_n dX11_round_0 rfl ?_
  refine jx_iload_n dX11_round_1 rfl ?_
  refine jx_irem dX11_round_2 ?_ ?_
  · exact nI_ne0 h0 (by omega)
  refine jx_iload_n dX11_round_3 rfl ?_
  refine jx_iadd dX11_round_4 ?_
  refine jx_iload_n dX11_round_5 rfl ?_
  refine jx_irem dX11_round_6 ?_ ?_
  · exact nI_ne0 h0 (by omega)
  refine jx_iret dX11_round_7 rfl ?_
  refine ⟨?_, rfl⟩
  rw [round_eq v h0 h9]
theorem tX11_roundL (hW : jWok w l) {a d m : Nat} (h0 : 0 < m) (h9 : m ≤ 9) {x : Int32} (ha : a < 1000) (hd : d ≤ 40) (h1 : -2 ≤ x.toInt) (h2 : x.toInt ≤ 2) (σ : jHS) : jCD w l mX11_round 1 [.int (nI a + x * nI d), .int (nI m)] σ (some (.int (nI (rmod ((a : Int) + x.toInt * d) m)))) σ := by
  have := tX11_round hW h0 h9 (nI a + x * nI d) σ
  rw [lin_toInt ha hd h1 h2] at this
  exact this
set_option maxHeartbeats 1000000 in
set_option maxRecDepth 20000 in
theorem tX11_reckon (hW : jWok w l) (s x y : Int32) (σ : jHS)  : jCD w l mX11_reckon 1 [.int s, .int x, .int y] σ (some (.int (wop s x y))) σ := by
  refine jCD_of hW (by decide) rfl (Nat.le_of_ble_eq_true rfl) ?_
  refine jx_iload_n dX11_reckon_0 rfl ?_
  by_cases hs1_0 : s = (-26)
  · subst hs1_0
    refine jx_tsIn 90 dX11_reckon_1 (by decide) (by decide) rfl (by decide) ?_
    refine jx_iload_n dX11_reckon_90 rfl ?_
    refine jx_if_eq 102 dX11_reckon_91 (by decide) (fun h91 => ?_) (fun h91 => ?_)
    · refine jx_iconst (v := 0) dX11_reckon_102 (by decide) ?_
      refine jx_iret dX11_reckon_103 rfl ?_
      refine ⟨?_, rfl⟩
      rw [show wop (-26) x y = if x ≠ 0 ∧ y ≠ 0 then 1 else 0 from rfl]
      first | (simp [h91, h95]; done) | (simp [h91]; done)
    · refine jx_iload_n dX11_reckon_94 rfl ?_
      refine jx_if_eq 102 dX11_reckon_95 (by decide) (fun h95 => ?_) (fun h95 => ?_)
      · refine jx_iconst (v := 0) dX11_reckon_102 (by decide) ?_
        refine jx_iret dX11_reckon_103 rfl ?_
        refine ⟨?_, rfl⟩
        rw [show wop (-26) x y = if x ≠ 0 ∧ y ≠ 0 then 1 else 0 from rfl]
        first | (simp [h91, h95]; done) | (simp [h91]; done)
      · refine jx_iconst (v := 1) dX11_reckon_98 (by decide) ?_
        refine jx_goto 103 dX11_reckon_99 (by decide) ?_
        refine jx_iret dX11_reckon_103 rfl ?_
        refine ⟨?_, rfl⟩
        rw [show wop (-26) x y = if x ≠ 0 ∧ y ≠ 0 then 1 else 0 from rfl]
        first | (simp [h91, h95]; done) | (simp [h91]; done)
  by_cases hs1_1 : s = (-25)
  · subst hs1_1
    refine jx_tsIn 79 dX11_reckon_1 (by decide) (by decide) rfl (by decide) ?_
    refine jx_iload_n dX11_reckon_79 rfl ?_
    refine jx_iload_n dX11_reckon_80 rfl ?_
    refine jx_icmp_ne 88 dX11_reckon_81 (by decide) (fun h81 => ?_) (fun h81 => ?_)
    · refine jx_iconst (v := 0) dX11_reckon_88 (by decide) ?_
      refine jx_iret dX11_reckon_89 rfl ?_
      refine ⟨?_, rfl⟩
      rw [show wop (-25) x y = if x = y then 1 else 0 from rfl]
      simp [h81]
    · refine jx_iconst (v := 1) dX11_reckon_84 (by decide) ?_
      refine jx_goto 89 dX11_reckon_85 (by decide) ?_
      refine jx_iret dX11_reckon_89 rfl ?_
      refine ⟨?_, rfl⟩
      rw [show wop (-25) x y = if x = y then 1 else 0 from rfl]
      simp [h81]
  by_cases hs1_2 : s = (-24)
  · subst hs1_2
    refine jx_tsIn 68 dX11_reckon_1 (by decide) (by decide) rfl (by decide) ?_
    refine jx_iload_n dX11_reckon_68 rfl ?_
    refine jx_iload_n dX11_reckon_69 rfl ?_
    refine jx_icmp_ge 77 dX11_reckon_70 (by decide) (fun h70 => ?_) (fun h70 => ?_)
    · refine jx_iconst (v := 0) dX11_reckon_77 (by decide) ?_
      refine jx_iret dX11_reckon_78 rfl ?_
      refine ⟨?_, rfl⟩
      rw [show wop (-24) x y = if x < y then 1 else 0 from rfl]
      first | rw [if_pos (Int32.not_le.mp h70)] | rw [if_neg (Int32.not_lt.mpr h70)]
    · refine jx_iconst (v := 1) dX11_reckon_73 (by decide) ?_
      refine jx_goto 78 dX11_reckon_74 (by decide) ?_
      refine jx_iret dX11_reckon_78 rfl ?_
      refine ⟨?_, rfl⟩
      rw [show wop (-24) x y = if x < y then 1 else 0 from rfl]
      first | rw [if_pos (Int32.not_le.mp h70)] | rw [if_neg (Int32.not_lt.mpr h70)]
  by_cases hs1_3 : s = (-23)
  · subst hs1_3
    refine jx_tsIn 56 dX11_reckon_1 (by decide) (by decide) rfl (by decide) ?_
    refine jx_iload_n dX11_reckon_56 rfl ?_
    refine jx_if_ne 64 dX11_reckon_57 (by decide) (fun h57 => ?_) (fun h57 => ?_)
    · refine jx_iload_n dX11_reckon_64 rfl ?_
      refine jx_iload_n dX11_reckon_65 rfl ?_
      refine jx_idiv dX11_reckon_66 ?_ ?_
      · exact h57
      refine jx_iret dX11_reckon_67 rfl ?_
      refine ⟨?_, rfl⟩
      rw [show wop (-23) x y = if y = 0 then 0 else x / y from rfl]
      simp [h57]
    · refine jx_iconst (v := 0) dX11_reckon_60 (by decide) ?_
      refine jx_goto 67 dX11_reckon_61 (by decide) ?_
      refine jx_iret dX11_reckon_67 rfl ?_
      refine ⟨?_, rfl⟩
      rw [show wop (-23) x y = if y = 0 then 0 else x / y from rfl]
      simp [h57]
  by_cases hs1_4 : s = (-22)
  · subst hs1_4
    refine jx_tsIn 52 dX11_reckon_1 (by decide) (by decide) rfl (by decide) ?_
    refine jx_iload_n dX11_reckon_52 rfl ?_
    refine jx_iload_n dX11_reckon_53 rfl ?_
    refine jx_imul dX11_reckon_54 ?_
    refine jx_iret dX11_reckon_55 rfl ?_
    exact ⟨rfl, rfl⟩
  by_cases hs1_5 : s = (-21)
  · subst hs1_5
    refine jx_tsIn 48 dX11_reckon_1 (by decide) (by decide) rfl (by decide) ?_
    refine jx_iload_n dX11_reckon_48 rfl ?_
    refine jx_iload_n dX11_reckon_49 rfl ?_
    refine jx_isub dX11_reckon_50 ?_
    refine jx_iret dX11_reckon_51 rfl ?_
    exact ⟨rfl, rfl⟩
  by_cases hs1_6 : s = (-20)
  · subst hs1_6
    refine jx_tsIn 44 dX11_reckon_1 (by decide) (by decide) rfl (by decide) ?_
    refine jx_iload_n dX11_reckon_44 rfl ?_
    refine jx_iload_n dX11_reckon_45 rfl ?_
    refine jx_iadd dX11_reckon_46 ?_
    refine jx_iret dX11_reckon_47 rfl ?_
    exact ⟨rfl, rfl⟩
  refine jx_tsOut 104 dX11_reckon_1 ?_ (by decide) ?_
  · have z0 := lv_neT hs1_0 (a := -26) rfl; have z1 := lv_neT hs1_1 (a := -25) rfl; have z2 := lv_neT hs1_2 (a := -24) rfl; have z3 := lv_neT hs1_3 (a := -23) rfl; have z4 := lv_neT hs1_4 (a := -22) rfl; have z5 := lv_neT hs1_5 (a := -21) rfl; have z6 := lv_neT hs1_6 (a := -20) rfl; omega
  refine jx_iload_n dX11_reckon_104 rfl ?_
  refine jx_if_ne 112 dX11_reckon_105 (by decide) (fun h105 => ?_) (fun h105 => ?_)
  · refine jx_iconst (v := 1) dX11_reckon_112 (by decide) ?_
    refine jx_goto 117 dX11_reckon_113 (by decide) ?_
    refine jx_iret dX11_reckon_117 rfl ?_
    refine ⟨?_, rfl⟩
    have e : wop s x y = if x ≠ 0 ∨ y ≠ 0 then 1 else 0 := by unfold wop; rw [if_neg hs1_6, if_neg hs1_5, if_neg hs1_4, if_neg hs1_3, if_neg hs1_2, if_neg hs1_1, if_neg hs1_0]
    rw [e]
    first | (simp [h105, h109]; done) | (simp [h105]; done)
  · refine jx_iload_n dX11_reckon_108 rfl ?_
    refine jx_if_eq 116 dX11_reckon_109 (by decide) (fun h109 => ?_) (fun h109 => ?_)
    · refine jx_iconst (v := 0) dX11_reckon_116 (by decide) ?_
      refine jx_iret dX11_reckon_117 rfl ?_
      refine ⟨?_, rfl⟩
      have e : wop s x y = if x ≠ 0 ∨ y ≠ 0 then 1 else 0 := by unfold wop; rw [if_neg hs1_6, if_neg hs1_5, if_neg hs1_4, if_neg hs1_3, if_neg hs1_2, if_neg hs1_1, if_neg hs1_0]
      rw [e]
      first | (simp [h105, h109]; done) | (simp [h105]; done)
    · refine jx_iconst (v := 1) dX11_reckon_112 (by decide) ?_
      refine jx_goto 117 dX11_reckon_113 (by decide) ?_
      refine jx_iret dX11_reckon_117 rfl ?_
      refine ⟨?_, rfl⟩
      have e : wop s x y = if x ≠ 0 ∨ y ≠ 0 then 1 else 0 := by unfold wop; rw [if_neg hs1_6, if_neg hs1_5, if_neg hs1_4, if_neg hs1_3, if_neg hs1_2, if_neg hs1_1, if_neg hs1_0]
      rw [e]
      first | (simp [h105, h109]; done) | (simp [h105]; done)
set_option maxHeartbeats 1000000 in
set_option maxRecDepth 20000 in
theorem tX11_tellQuick (hW : jWok w l) (hR : RS R) {W H : Nat} (hQ : RQ I W H) {day : Nat} (hd : day ≤ 40) {dx dy : Int32} (hx1 : -2 ≤ dx.toInt) (hx2 : dx.toInt ≤ 2) (hy1 : -2 ≤ dy.toInt) (hy2 : dy.toInt ≤ 2) : jCD w l mX11_tellQuick 2 [.ref 1069, .int (nI day), .int dx, .int dy] (n, shE, I, L, R) none (n, shE, fl I 1089 (fun c => jb (qOn W H (fun k => cN (I 1075 k)) day dx.toInt dy.toInt (cN (I 1072 4)) c)) (W * H), L, R) := by
  refine jCD_of hW (by decide) rfl (Nat.le_of_ble_eq_true rfl) ?_
  obtain ⟨hT, ⟨hq, hq12⟩, hqa⟩ := hQ
  have hz := hT.wh
  have hw3 := hT.2.2.1
  have hw9 := hT.2.2.2.1
  have hh1 := hT.2.2.2.2.1
  have hh7 := hT.2.2.2.2.2
  have key2 : ∀ k, k ≤ cN (I 1072 4) → jWP w l mX11_tellQuick 2 0 0 (fun r t => r = none ∧ t = (n, shE, fl I 1089 (fun c => jb (qOn W H (fun k => cN (I 1075 k)) day dx.toInt dy.toInt (cN (I 1072 4)) c)) (W * H), L, R)) (fun _ _ => False) 38 [(0, .ref 1069), (1, .int (nI day)), (2, .int dx), (3, .int dy), (4, .int (nI k))] [] (n, shE, fl I 1089 (fun c => jb (qOn W H (fun k => cN (I 1075 k)) day dx.toInt dy.toInt k c)) (W * H), L, R) := by
    refine jdown _ (fun k hk ih => ?_)
    refine jx_iload dX11_tellQuick_38 rfl ?_
    refine jx_aload_n dX11_tellQuick_40 rfl ?_
    refine jx_getR dX11_tellQuick_41 flX11_34 rfl rfl (hR _ _ _ rfl) ?_
    refine jx_iconst (v := 4) dX11_tellQuick_44 (by decide) ?_
    refine jx_ialdE (4) dX11_tellQuick_45 rfl (rfl) (by omega) (by omega) ((fl_ne (by decide)).trans hq) ?_
    refine jx_icmpN_ge (a := k) (b := (cN (I 1072 4))) 123 dX11_tellQuick_46 (by decide) (by omega) (by omega) (fun h46 => ?_) (fun h46 => ?_)
    · refine jx_vret dX11_tellQuick_123 rfl ?_
      have : k = cN (I 1072 4) := by omega
      subst this
      exact ⟨rfl, rfl⟩
    · have hql := (hqa k h46).2
      refine jx_aload_n dX11_tellQuick_49 rfl ?_
      refine jx_getR dX11_tellQuick_50 flX11_91 rfl rfl (hR _ _ _ rfl) ?_
      refine jx_aload_n dX11_tellQuick_53 rfl ?_
      refine jx_getR dX11_tellQuick_54 flX11_34 rfl rfl (hR _ _ _ rfl) ?_
      refine jx_iconst (v := 0) dX11_tellQuick_57 (by decide) ?_
      refine jx_ialdE (0) dX11_tellQuick_58 rfl (rfl) (by omega) (by omega) ((fl_ne (by decide)).trans hT.1) ?_
      refine jx_aload_n dX11_tellQuick_59 rfl ?_
      refine jx_getR dX11_tellQuick_60 flX11_44 rfl rfl (hR _ _ _ rfl) ?_
      refine jx_iload dX11_tellQuick_63 rfl ?_
      refine jx_ialdE (k) dX11_tellQuick_65 rfl (rfl) (by omega) (by omega) ((fl_ne (by decide)).trans (hqa k h46).1) ?_
      refine jx_aload_n dX11_tellQuick_66 rfl ?_
      refine jx_getR dX11_tellQuick_67 flX11_34 rfl rfl (hR _ _ _ rfl) ?_
      refine jx_iconst (v := 0) dX11_tellQuick_70 (by decide) ?_
      refine jx_ialdE (0) dX11_tellQuick_71 rfl (rfl) (by omega) (by omega) ((fl_ne (by decide)).trans hT.1) ?_
      refine jx_idivE (z := nI ((cN (I 1075 k)) / W)) dX11_tellQuick_72 (nI_ne0 (n := W) (by omega) (by omega)) (pk_div (a := (cN (I 1075 k))) (d := W) (by omega) (by omega) (by omega)) ?_
      refine jx_iload_n dX11_tellQuick_73 rfl ?_
      refine jx_iload_n dX11_tellQuick_74 rfl ?_
      refine jx_imul dX11_tellQuick_75 ?_
      refine jx_iadd dX11_tellQuick_76 ?_
      refine jx_aload_n dX11_tellQuick_77 rfl ?_
      refine jx_getR dX11_tellQuick_78 flX11_34 rfl rfl (hR _ _ _ rfl) ?_
      refine jx_iconst (v := 1) dX11_tellQuick_81 (by decide) ?_
      refine jx_ialdE (1) dX11_tellQuick_82 rfl (rfl) (by omega) (by omega) ((fl_ne (by decide)).trans hT.2.1) ?_
      have hdv := Nat.div_le_self (cN (I 1075 k)) W
      refine jx_Si (as := [.int _, .int _]) dX11_tellQuick_83 mlX11_383 okX11_round stX11_round rfl rfl (by decide) (Nat.le_of_ble_eq_true rfl) (tX11_roundL hW (by omega) (by omega) (by omega) (by omega) hy1 hy2 _) ?_
      refine jx_imulE (z := nI (W * (rmod (((cN (I 1075 k) / W : Nat) : Int) + dy.toInt * day) H))) dX11_tellQuick_86 (pk_mul W (rmod (((cN (I 1075 k) / W : Nat) : Int) + dy.toInt * day) H)) ?_
      refine jx_aload_n dX11_tellQuick_87 rfl ?_
      refine jx_getR dX11_tellQuick_88 flX11_44 rfl rfl (hR _ _ _ rfl) ?_
      refine jx_iload dX11_tellQuick_91 rfl ?_
      refine jx_ialdE (k) dX11_tellQuick_93 rfl (rfl) (by omega) (by omega) ((fl_ne (by decide)).trans (hqa k h46).1) ?_
      refine jx_aload_n dX11_tellQuick_94 rfl ?_
      refine jx_getR dX11_tellQuick_95 flX11_34 rfl rfl (hR _ _ _ rfl) ?_
      refine jx_iconst (v := 0) dX11_tellQuick_98 (by decide) ?_
      refine jx_ialdE (0) dX11_tellQuick_99 rfl (rfl) (by omega) (by omega) ((fl_ne (by decide)).trans hT.1) ?_
      refine jx_iremE (z := nI ((cN (I 1075 k)) % W)) dX11_tellQuick_100 (nI_ne0 (n := W) (by omega) (by omega)) (pk_rem (a := (cN (I 1075 k))) (d := W) (by omega) (by omega) (by omega)) ?_
      refine jx_iload_n dX11_tellQuick_101 rfl ?_
      refine jx_iload_n dX11_tellQuick_102 rfl ?_
      refine jx_imul dX11_tellQuick_103 ?_
      refine jx_iadd dX11_tellQuick_104 ?_
      refine jx_aload_n dX11_tellQuick_105 rfl ?_
      refine jx_getR dX11_tellQuick_106 flX11_34 rfl rfl (hR _ _ _ rfl) ?_
      refine jx_iconst (v := 0) dX11_tellQuick_109 (by decide) ?_
      refine jx_ialdE (0) dX11_tellQuick_110 rfl (rfl) (by omega) (by omega) ((fl_ne (by decide)).trans hT.1) ?_
      have hmd := Nat.mod_lt (cN (I 1075 k)) (y := W) (by omega)
      have hqp := qpos_lt (W := W) (H := H) (cN (I 1075 k)) day dx.toInt dy.toInt (by omega) (by omega)
      refine jx_Si (as := [.int _, .int _]) dX11_tellQuick_111 mlX11_383 okX11_round stX11_round rfl rfl (by decide) (Nat.le_of_ble_eq_true rfl) (tX11_roundL hW (by omega) (by omega) (by omega) (by omega) hx1 hx2 _) ?_
      refine jx_iaddE (z := nI ((W * (rmod (((cN (I 1075 k) / W : Nat) : Int) + dy.toInt * day) H)) + (rmod (((cN (I 1075 k) % W : Nat) : Int) + dx.toInt * day) W))) dX11_tellQuick_114 (nI_add (W * (rmod (((cN (I 1075 k) / W : Nat) : Int) + dy.toInt * day) H)) (rmod (((cN (I 1075 k) % W : Nat) : Int) + dx.toInt * day) W)) ?_
      refine jx_iconst (v := 1) dX11_tellQuick_115 (by decide) ?_
      refine jx_zastN (qpos W H (cN (I 1075 k)) day dx.toInt dy.toInt) dX11_tellQuick_116 rfl (rfl) (by omega) (by omega) ?_
      refine jx_iinc dX11_tellQuick_117 rfl (v := nI (k + 1)) (nI_1 _) (by decide) ?_
      refine jx_goto 38 dX11_tellQuick_120 (by decide) ?_
      rw [fl_put hqp]
      have e : (fun c => if c = qpos W H (cN (I 1075 k)) day dx.toInt dy.toInt then (1 : Int32) &&& 1 else jb (qOn W H (fun k => cN (I 1075 k)) day dx.toInt dy.toInt k c)) = fun c => jb (qOn W H (fun k => cN (I 1075 k)) day dx.toInt dy.toInt (k + 1) c) := by
        funext c
        by_cases hc : c = qpos W H (cN (I 1075 k)) day dx.toInt dy.toInt
        · rw [if_pos hc]
          have : qOn W H (fun k => cN (I 1075 k)) day dx.toInt dy.toInt (k + 1) c = true := by simp [qOn, hc]
          rw [this]; decide
        · rw [if_neg hc]
          have : qOn W H (fun k => cN (I 1075 k)) day dx.toInt dy.toInt (k + 1) c = qOn W H (fun k => cN (I 1075 k)) day dx.toInt dy.toInt k c := by simp only [qOn, decide_eq_false (fun q => hc (Eq.symm q)), Bool.or_false]
          rw [this]
      rw [e]
      exact jx_ls (by exact ⟨rfl, rfl, rfl, rfl, rfl, trivial⟩) (ih h46)
  have key1 : ∀ k, k ≤ W * H → jWP w l mX11_tellQuick 2 0 0 (fun r t => r = none ∧ t = (n, shE, fl I 1089 (fun c => jb (qOn W H (fun k => cN (I 1075 k)) day dx.toInt dy.toInt (cN (I 1072 4)) c)) (W * H), L, R)) (fun _ _ => False) 3 [(0, .ref 1069), (1, .int (nI day)), (2, .int dx), (3, .int dy), (4, .int (nI k))] [] (n, shE, fl I 1089 (fun _ => 0) k, L, R) := by
    refine jdown _ (fun k hk ih => ?_)
    refine jx_iload dX11_tellQuick_3 rfl ?_
    refine jx_aload_n dX11_tellQuick_5 rfl ?_
    refine jx_getR dX11_tellQuick_6 flX11_34 rfl rfl (hR _ _ _ rfl) ?_
    refine jx_iconst (v := 0) dX11_tellQuick_9 (by decide) ?_
    refine jx_ialdE (0) dX11_tellQuick_10 rfl (rfl) (by omega) (by omega) ((fl_ne (by decide)).trans hT.1) ?_
    refine jx_aload_n dX11_tellQuick_11 rfl ?_
    refine jx_getR dX11_tellQuick_12 flX11_34 rfl rfl (hR _ _ _ rfl) ?_
    refine jx_iconst (v := 1) dX11_tellQuick_15 (by decide) ?_
    refine jx_ialdE (1) dX11_tellQuick_16 rfl (rfl) (by omega) (by omega) ((fl_ne (by decide)).trans hT.2.1) ?_
    refine jx_imulE (z := nI (W * H)) dX11_tellQuick_17 (pk_mul W H) ?_
    refine jx_icmpN_ge (a := k) (b := (W * H)) 35 dX11_tellQuick_18 (by decide) (by omega) (by omega) (fun h18 => ?_) (fun h18 => ?_)
    · refine jx_iconst (v := 0) dX11_tellQuick_35 (by decide) ?_
      refine jx_istore dX11_tellQuick_36 (by decide) ?_
      have : k = W * H := by omega
      subst this
      exact jx_ls (by exact ⟨rfl, rfl, rfl, rfl, rfl, trivial⟩) (key2 0 (by omega))
    · refine jx_aload_n dX11_tellQuick_21 rfl ?_
      refine jx_getR dX11_tellQuick_22 flX11_91 rfl rfl (hR _ _ _ rfl) ?_
      refine jx_iload dX11_tellQuick_25 rfl ?_
      refine jx_iconst (v := 0) dX11_tellQuick_27 (by decide) ?_
      refine jx_zastN (k) dX11_tellQuick_28 rfl (rfl) (by omega) (by omega) ?_
      refine jx_iinc dX11_tellQuick_29 rfl (v := nI (k + 1)) (nI_1 _) (by decide) ?_
      refine jx_goto 3 dX11_tellQuick_32 (by decide) ?_
      rw [show ((0 : Int32) &&& 1) = 0 by decide, fl_s I 1089 (fun _ => 0) k]
      exact jx_ls (by exact ⟨rfl, rfl, rfl, rfl, rfl, trivial⟩) (ih h18)
  have key := key1 0 (by omega)
  rw [fl_0] at key
  refine jx_iconst (v := 0) dX11_tellQuick_0 (by decide) ?_
  refine jx_istore dX11_tellQuick_1 (by decide) ?_
  exact jx_ls (by exact ⟨rfl, rfl, rfl, rfl, rfl, trivial⟩) key
set_option maxHeartbeats 1000000 in
set_option maxRecDepth 20000 in
theorem tX11_waterOf (hW : jWok w l) (hR : RS R) {len : Nat} (hl : I 1072 16 = nI len) (hl7 : len ≤ 700) (hok : wok (I 1082) len) (hfin : len = 0 ∨ 0 < wdep (I 1082) len) {day tick : Nat} (hd : day ≤ 40) (ht : tick < 96) (wind : Int32) : jRi w l mX11_waterOf 2 [.ref 1069, .int (nI day), .int (nI tick), .int wind] (n, shE, I, L, R) (fun r t => r = nI (wlev (I 1082) len day tick wind) ∧ ∃ J, t = (n, shE, J, L, R) ∧ eqx [1086, 1087] I J) := by
  refine jRi_of hW (by decide) rfl (Nat.le_of_ble_eq_true rfl) ?_
  have key : ∀ k, k ≤ len → len ≠ 0 → ∀ (J : Nat → Nat → Int32) (m : Nat), m = (wrun day tick wind (I 1082) k).length → (J 1086 0 = nI (tick / 4) ∧ J 1086 1 = nI tick ∧ J 1086 2 = nI day ∧ J 1086 3 = wind) → stk (J 1087) (wrun day tick wind (I 1082) k) → eqx [1086, 1087] I J → jWP w l mX11_waterOf 2 0 0 (fun v t => ∃ r, v = some (.int r) ∧ (fun r t => r = nI (wlev (I 1082) len day tick wind) ∧ ∃ J, t = (n, shE, J, L, R) ∧ eqx [1086, 1087] I J) r t) (fun _ _ => False) 77 [(0, .ref 1069), (1, .int (nI day)), (2, .int (nI tick)), (3, .int wind), (4, .int (nI (tick / 4))), (5, .int (nI m)), (6, .int (nI k))] [] (n, shE, J, L, R) := by
    refine jdown _ (fun k hk ih => ?_)
    intro hne J m hm hJ hs he
    have hwl := wrun_len hok day tick wind k hk
    have hdl := wdep_le hok k hk
    have eC : ∀ j, J 1082 j = I 1082 j := fun j => he 1082 j (by decide)
    have eL : J 1072 16 = nI len := (he 1072 16 (by decide)).trans hl
    refine jx_iload dX11_waterOf_77 rfl ?_
    refine jx_aload_n dX11_waterOf_79 rfl ?_
    refine jx_getR dX11_waterOf_80 flX11_34 rfl rfl (hR _ _ _ rfl) ?_
    refine jx_bipush (v := 16) dX11_waterOf_83 (by decide) ?_
    refine jx_ialdE (16) dX11_waterOf_85 rfl (rfl) (by omega) (by omega) (eL) ?_
    refine jx_icmpN_ge (a := k) (b := len) 212 dX11_waterOf_86 (by decide) (by omega) (by omega) (fun h86 => ?_) (fun h86 => ?_)
    · refine jx_iconst (v := 0) dX11_waterOf_212 (by decide) ?_
      refine jx_bipush (v := 20) dX11_waterOf_213 (by decide) ?_
      refine jx_aload_n dX11_waterOf_215 rfl ?_
      refine jx_getR dX11_waterOf_216 flX11_85 rfl rfl (hR _ _ _ rfl) ?_
      refine jx_iconst (v := 0) dX11_waterOf_219 (by decide) ?_
      refine jx_ialdN (0) dX11_waterOf_220 rfl (rfl) (by omega) (by omega) ?_
      refine jx_Si (as := [.int _, .int _]) dX11_waterOf_221 mlX11_228 okJ9_min_7cf53 stJ9_min_7cf53 rfl rfl (by decide) (Nat.le_of_ble_eq_true rfl) (tJ9_min_7cf53 hW _ _ _) ?_
      refine jx_Si (as := [.int _, .int _]) dX11_waterOf_224 mlX11_380 okJ9_max_7cf53 stJ9_max_7cf53 rfl rfl (by decide) (Nat.le_of_ble_eq_true rfl) (tJ9_max_7cf53 hW _ _ _) ?_
      refine jx_iret dX11_waterOf_227 rfl ?_
      have : k = len := by omega
      subst this
      refine ⟨_, rfl, ?_, J, rfl, he⟩
      rw [wclamp_eq]
      unfold wlev
      rw [if_neg hne, stk_0 hs (fun q => by rw [q] at hwl; simp at hwl; omega)]
    · have hk1 := hok k h86
      refine jx_aload_n dX11_waterOf_89 rfl ?_
      refine jx_getR dX11_waterOf_90 flX11_65 rfl rfl (hR _ _ _ rfl) ?_
      refine jx_iload dX11_waterOf_93 rfl ?_
      refine jx_ialdE (k) dX11_waterOf_95 rfl (rfl) (by omega) (by omega) (eC k) ?_
      refine jx_istore dX11_waterOf_96 (by decide) ?_
      refine jx_iload dX11_waterOf_98 rfl ?_
      refine jx_bipush (v := -20) dX11_waterOf_100 (by decide) ?_
      refine jx_icmp_le 137 dX11_waterOf_102 (by decide) (fun h102 => ?_) (fun h102 => ?_)
      · rw [if_neg (Int32.not_lt.mpr h102)] at hk1
        refine jx_iload dX11_waterOf_137 rfl ?_
        refine jx_bipush (v := -28) dX11_waterOf_139 (by decide) ?_
        refine jx_icmp_ne 173 dX11_waterOf_141 (by decide) (fun h141 => ?_) (fun h141 => ?_)
        · rw [if_neg h141] at hk1
          obtain ⟨y, x, r, hr⟩ : ∃ y x r, wrun day tick wind (I 1082) k = y :: x :: r := by
            cases hc : wrun day tick wind (I 1082) k with
            | nil => rw [hc] at hwl; simp at hwl; omega
            | cons y r => cases r with
              | nil => rw [hc] at hwl; simp at hwl; omega
              | cons x r => exact ⟨y, x, r, rfl⟩
          have hrm : m = r.length + 2 := by rw [hm, hr]; rfl
          rw [hr] at hs
          refine jx_iinc dX11_waterOf_173 rfl (v := nI (m - 1)) (nI_m1 (by omega)) (by decide) ?_
          refine jx_aload_n dX11_waterOf_176 rfl ?_
          refine jx_getR dX11_waterOf_177 flX11_85 rfl rfl (hR _ _ _ rfl) ?_
          refine jx_iload dX11_waterOf_180 rfl ?_
          refine jx_iconst (v := 1) dX11_waterOf_182 (by decide) ?_
          refine jx_isubE (z := nI ((m - 1) - 1)) dX11_waterOf_183 (pk_sub (a := (m - 1)) (b := 1) (by omega)) ?_
          refine jx_iload dX11_waterOf_184 rfl ?_
          refine jx_aload_n dX11_waterOf_186 rfl ?_
          refine jx_getR dX11_waterOf_187 flX11_85 rfl rfl (hR _ _ _ rfl) ?_
          refine jx_iload dX11_waterOf_190 rfl ?_
          refine jx_iconst (v := 1) dX11_waterOf_192 (by decide) ?_
          refine jx_isubE (z := nI ((m - 1) - 1)) dX11_waterOf_193 (pk_sub (a := (m - 1)) (b := 1) (by omega)) ?_
          refine jx_ialdE ((m - 1) - 1) dX11_waterOf_194 rfl (rfl) (by omega) (by omega) ((congrArg (J 1087) (by omega : m - 1 - 1 = r.length)).trans hs.2.1) ?_
          refine jx_aload_n dX11_waterOf_195 rfl ?_
          refine jx_getR dX11_waterOf_196 flX11_85 rfl rfl (hR _ _ _ rfl) ?_
          refine jx_iload dX11_waterOf_199 rfl ?_
          refine jx_ialdE (m - 1) dX11_waterOf_201 rfl (rfl) (by omega) (by omega) ((congrArg (J 1087) (show m - 1 = (x :: r).length by rw [hrm]; rfl)).trans hs.1) ?_
          refine jx_Si (as := [.int _, .int _, .int _]) dX11_waterOf_202 mlX11_376 okX11_reckon stX11_reckon rfl rfl (by decide) (Nat.le_of_ble_eq_true rfl) (tX11_reckon hW _ _ _ _) ?_
          refine jx_iastN ((m - 1) - 1) dX11_waterOf_205 rfl (rfl) (by omega) (by omega) ?_
          refine jx_iinc dX11_waterOf_206 rfl (v := nI (k + 1)) (nI_1 _) (by decide) ?_
          refine jx_goto 77 dX11_waterOf_209 (by decide) ?_
          have e : wrun day tick wind (I 1082) (k + 1) = wop (I 1082 k) x y :: r := by show wst _ _ _ _ _ = _; unfold wst; rw [if_neg (Int32.not_lt.mpr h102), if_neg h141, hr]
          refine jx_ls (by exact ⟨rfl, rfl, rfl, rfl, rfl, rfl, rfl, trivial⟩) (ih h86 hne _ _ (by rw [e, hrm]; rfl) ⟨?_, ?_, ?_, ?_⟩ (by rw [e]; exact ⟨by rw [show r.length = m - 1 - 1 by omega, upI_s], stk_up hs.2.2 (by omega)⟩) (eqx_u he (by decide)))
          · exact (upI_nea' (by decide)).trans hJ.1
          · exact (upI_nea' (by decide)).trans hJ.2.1
          · exact (upI_nea' (by decide)).trans hJ.2.2.1
          · exact (upI_nea' (by decide)).trans hJ.2.2.2
        · rw [if_pos h141] at hk1
          obtain ⟨x, r, hr⟩ : ∃ x r, wrun day tick wind (I 1082) k = x :: r := by
            cases hc : wrun day tick wind (I 1082) k with
            | nil => rw [hc] at hwl; simp at hwl; omega
            | cons x r => exact ⟨x, r, rfl⟩
          have hrm : m = r.length + 1 := by rw [hm, hr]; rfl
          rw [hr] at hs
          refine jx_aload_n dX11_waterOf_144 rfl ?_
          refine jx_getR dX11_waterOf_145 flX11_85 rfl rfl (hR _ _ _ rfl) ?_
          refine jx_iload dX11_waterOf_148 rfl ?_
          refine jx_iconst (v := 1) dX11_waterOf_150 (by decide) ?_
          refine jx_isubE (z := nI (m - 1)) dX11_waterOf_151 (pk_sub (a := m) (b := 1) (by omega)) ?_
          refine jx_aload_n dX11_waterOf_152 rfl ?_
          refine jx_getR dX11_waterOf_153 flX11_85 rfl rfl (hR _ _ _ rfl) ?_
          refine jx_iload dX11_waterOf_156 rfl ?_
          refine jx_iconst (v := 1) dX11_waterOf_158 (by decide) ?_
          refine jx_isubE (z := nI (m - 1)) dX11_waterOf_159 (pk_sub (a := m) (b := 1) (by omega)) ?_
          refine jx_ialdE (m - 1) dX11_waterOf_160 rfl (rfl) (by omega) (by omega) ((congrArg (J 1087) (by omega : m - 1 = r.length)).trans hs.1) ?_
          refine jx_if_eq 168 dX11_waterOf_161 (by decide) (fun h161 => ?_) (fun h161 => ?_)
          · refine jx_iconst (v := 1) dX11_waterOf_168 (by decide) ?_
            refine jx_iastN (m - 1) dX11_waterOf_169 rfl (rfl) (by omega) (by omega) ?_
            refine jx_goto 206 dX11_waterOf_170 (by decide) ?_
            refine jx_iinc dX11_waterOf_206 rfl (v := nI (k + 1)) (nI_1 _) (by decide) ?_
            refine jx_goto 77 dX11_waterOf_209 (by decide) ?_
            have e : wrun day tick wind (I 1082) (k + 1) = (if x = 0 then 1 else 0) :: r := by show wst _ _ _ _ _ = _; unfold wst; rw [if_neg (Int32.not_lt.mpr h102), if_pos h141, hr]
            refine jx_ls (by exact ⟨rfl, rfl, rfl, rfl, rfl, rfl, rfl, trivial⟩) (ih h86 hne _ _ (by rw [e, hrm]; rfl) ⟨?_, ?_, ?_, ?_⟩ (by rw [e]; exact ⟨by rw [show r.length = m - 1 by omega, upI_s]; simp [h161], stk_up hs.2 (by omega)⟩) (eqx_u he (by decide)))
            · exact (upI_nea' (by decide)).trans hJ.1
            · exact (upI_nea' (by decide)).trans hJ.2.1
            · exact (upI_nea' (by decide)).trans hJ.2.2.1
            · exact (upI_nea' (by decide)).trans hJ.2.2.2
          · refine jx_iconst (v := 0) dX11_waterOf_164 (by decide) ?_
            refine jx_goto 169 dX11_waterOf_165 (by decide) ?_
            refine jx_iastN (m - 1) dX11_waterOf_169 rfl (rfl) (by omega) (by omega) ?_
            refine jx_goto 206 dX11_waterOf_170 (by decide) ?_
            refine jx_iinc dX11_waterOf_206 rfl (v := nI (k + 1)) (nI_1 _) (by decide) ?_
            refine jx_goto 77 dX11_waterOf_209 (by decide) ?_
            have e : wrun day tick wind (I 1082) (k + 1) = (if x = 0 then 1 else 0) :: r := by show wst _ _ _ _ _ = _; unfold wst; rw [if_neg (Int32.not_lt.mpr h102), if_pos h141, hr]
            refine jx_ls (by exact ⟨rfl, rfl, rfl, rfl, rfl, rfl, rfl, trivial⟩) (ih h86 hne _ _ (by rw [e, hrm]; rfl) ⟨?_, ?_, ?_, ?_⟩ (by rw [e]; exact ⟨by rw [show r.length = m - 1 by omega, upI_s]; simp [h161], stk_up hs.2 (by omega)⟩) (eqx_u he (by decide)))
            · exact (upI_nea' (by decide)).trans hJ.1
            · exact (upI_nea' (by decide)).trans hJ.2.1
            · exact (upI_nea' (by decide)).trans hJ.2.2.1
            · exact (upI_nea' (by decide)).trans hJ.2.2.2
      · rw [if_pos (Int32.not_le.mp h102)] at hk1
        refine jx_aload_n dX11_waterOf_105 rfl ?_
        refine jx_getR dX11_waterOf_106 flX11_85 rfl rfl (hR _ _ _ rfl) ?_
        refine jx_iload dX11_waterOf_109 rfl ?_
        refine jx_iload dX11_waterOf_111 rfl ?_
        refine jx_if_lt 121 dX11_waterOf_113 (by decide) (fun h113 => ?_) (fun h113 => ?_)
        · obtain ⟨i, hi4, hi, hie⟩ := wenv_ix (day := day) (tick := tick) (wind := wind) hk1.2 h113
          have hv129 : J 1086 i = wenv day tick wind (I 1082 k) := by
            rw [hie]
            rcases (by omega : i = 0 ∨ i = 1 ∨ i = 2 ∨ i = 3) with e | e | e | e <;> subst e
            · exact hJ.1
            · exact hJ.2.1
            · exact hJ.2.2.1
            · exact hJ.2.2.2
          refine jx_aload_n dX11_waterOf_121 rfl ?_
          refine jx_getR dX11_waterOf_122 flX11_82 rfl rfl (hR _ _ _ rfl) ?_
          refine jx_iconst (v := -1) dX11_waterOf_125 (by decide) ?_
          refine jx_iload dX11_waterOf_126 rfl ?_
          refine jx_isub dX11_waterOf_128 ?_
          refine jx_ialdE (i) dX11_waterOf_129 rfl (hi) (by omega) (by omega) (hv129) ?_
          refine jx_iastN (m) dX11_waterOf_130 rfl (rfl) (by omega) (by omega) ?_
          refine jx_iinc dX11_waterOf_131 rfl (v := nI (m + 1)) (nI_1 _) (by decide) ?_
          refine jx_goto 206 dX11_waterOf_134 (by decide) ?_
          refine jx_iinc dX11_waterOf_206 rfl (v := nI (k + 1)) (nI_1 _) (by decide) ?_
          refine jx_goto 77 dX11_waterOf_209 (by decide) ?_
          have e : wrun day tick wind (I 1082) (k + 1) = wenv day tick wind (I 1082 k) :: wrun day tick wind (I 1082) k := by show wst _ _ _ _ _ = _; unfold wst; rw [if_pos (Int32.not_le.mp h102)]
          refine jx_ls (by exact ⟨rfl, rfl, rfl, rfl, rfl, rfl, rfl, trivial⟩) (ih h86 hne _ _ (by rw [e, hm]; rfl) ⟨?_, ?_, ?_, ?_⟩ (by rw [e]; exact ⟨by rw [← hm]; exact upI_s, stk_up hs (by omega)⟩) (eqx_u he (by decide)))
          · exact (upI_nea' (by decide)).trans hJ.1
          · exact (upI_nea' (by decide)).trans hJ.2.1
          · exact (upI_nea' (by decide)).trans hJ.2.2.1
          · exact (upI_nea' (by decide)).trans hJ.2.2.2
        · have hev : I 1082 k = wenv day tick wind (I 1082 k) := by unfold wenv; rw [if_pos (Int32.not_lt.mp h113)]
          rw [hev]
          refine jx_iload dX11_waterOf_116 rfl ?_
          refine jx_goto 130 dX11_waterOf_118 (by decide) ?_
          refine jx_iastN (m) dX11_waterOf_130 rfl (rfl) (by omega) (by omega) ?_
          refine jx_iinc dX11_waterOf_131 rfl (v := nI (m + 1)) (nI_1 _) (by decide) ?_
          refine jx_goto 206 dX11_waterOf_134 (by decide) ?_
          refine jx_iinc dX11_waterOf_206 rfl (v := nI (k + 1)) (nI_1 _) (by decide) ?_
          refine jx_goto 77 dX11_waterOf_209 (by decide) ?_
          have e : wrun day tick wind (I 1082) (k + 1) = wenv day tick wind (I 1082 k) :: wrun day tick wind (I 1082) k := by show wst _ _ _ _ _ = _; unfold wst; rw [if_pos (Int32.not_le.mp h102)]
          refine jx_ls (by exact ⟨rfl, rfl, rfl, rfl, rfl, rfl, rfl, trivial⟩) (ih h86 hne _ _ (by rw [e, hm]; rfl) ⟨?_, ?_, ?_, ?_⟩ (by rw [e]; exact ⟨by rw [← hm]; exact upI_s, stk_up hs (by omega)⟩) (eqx_u he (by decide)))
          · exact (upI_nea' (by decide)).trans hJ.1
          · exact (upI_nea' (by decide)).trans hJ.2.1
          · exact (upI_nea' (by decide)).trans hJ.2.2.1
          · exact (upI_nea' (by decide)).trans hJ.2.2.2
  refine jx_iload_n dX11_waterOf_0 rfl ?_
  refine jx_iconst (v := 4) dX11_waterOf_1 (by decide) ?_
  refine jx_idivE (z := nI (tick / 4)) dX11_waterOf_2 (nI_ne0 (n := 4) (by omega) (by omega)) (pk_div (a := tick) (d := 4) (by omega) (by omega) (by omega)) ?_
  refine jx_istore dX11_waterOf_3 (by decide) ?_
  refine jx_aload_n dX11_waterOf_5 rfl ?_
  refine jx_getR dX11_waterOf_6 flX11_34 rfl rfl (hR _ _ _ rfl) ?_
  refine jx_bipush (v := 16) dX11_waterOf_9 (by decide) ?_
  refine jx_ialdE (16) dX11_waterOf_11 rfl (rfl) (by omega) (by omega) (hl) ?_
  refine jx_ifN_ne (a := len) 42 dX11_waterOf_12 (by decide) (by omega) (fun h12 => ?_) (fun h12 => ?_)
  · refine jx_aload_n dX11_waterOf_42 rfl ?_
    refine jx_getR dX11_waterOf_43 flX11_82 rfl rfl (hR _ _ _ rfl) ?_
    refine jx_iconst (v := 0) dX11_waterOf_46 (by decide) ?_
    refine jx_iload dX11_waterOf_47 rfl ?_
    refine jx_iastN (0) dX11_waterOf_49 rfl (rfl) (by omega) (by omega) ?_
    refine jx_aload_n dX11_waterOf_50 rfl ?_
    refine jx_getR dX11_waterOf_51 flX11_82 rfl rfl (hR _ _ _ rfl) ?_
    refine jx_iconst (v := 1) dX11_waterOf_54 (by decide) ?_
    refine jx_iload_n dX11_waterOf_55 rfl ?_
    refine jx_iastN (1) dX11_waterOf_56 rfl (rfl) (by omega) (by omega) ?_
    refine jx_aload_n dX11_waterOf_57 rfl ?_
    refine jx_getR dX11_waterOf_58 flX11_82 rfl rfl (hR _ _ _ rfl) ?_
    refine jx_iconst (v := 2) dX11_waterOf_61 (by decide) ?_
    refine jx_iload_n dX11_waterOf_62 rfl ?_
    refine jx_iastN (2) dX11_waterOf_63 rfl (rfl) (by omega) (by omega) ?_
    refine jx_aload_n dX11_waterOf_64 rfl ?_
    refine jx_getR dX11_waterOf_65 flX11_82 rfl rfl (hR _ _ _ rfl) ?_
    refine jx_iconst (v := 3) dX11_waterOf_68 (by decide) ?_
    refine jx_iload_n dX11_waterOf_69 rfl ?_
    refine jx_iastN (3) dX11_waterOf_70 rfl (rfl) (by omega) (by omega) ?_
    refine jx_iconst (v := 0) dX11_waterOf_71 (by decide) ?_
    refine jx_istore dX11_waterOf_72 (by decide) ?_
    refine jx_iconst (v := 0) dX11_waterOf_74 (by decide) ?_
    refine jx_istore dX11_waterOf_75 (by decide) ?_
    refine jx_ls (by exact ⟨rfl, rfl, rfl, rfl, rfl, rfl, rfl, trivial⟩) (key 0 (by omega) h12 _ 0 rfl ⟨?_, ?_, ?_, ?_⟩ trivial (eqx_u (eqx_u (eqx_u (eqx_u (eqx_r _ _) (by decide)) (by decide)) (by decide)) (by decide)))
    · rw [upI_j (by decide), upI_j (by decide), upI_j (by decide), upI_s]
    · rw [upI_j (by decide), upI_j (by decide), upI_s]
    · rw [upI_j (by decide), upI_s]
    · rw [upI_s]
  · refine jx_iload dX11_waterOf_15 rfl ?_
    refine jx_bipush (v := 12) dX11_waterOf_17 (by decide) ?_
    refine jx_iremE (z := nI ((tick / 4) % 12)) dX11_waterOf_19 (nI_ne0 (n := 12) (by omega) (by omega)) (pk_rem (a := (tick / 4)) (d := 12) (by omega) (by omega) (by omega)) ?_
    refine jx_bipush (v := 6) dX11_waterOf_20 (by decide) ?_
    have hmm := Nat.mod_lt (tick / 4) (y := 12) (by omega)
    refine jx_icmpN_le (a := ((tick / 4) % 12)) (b := 6) 36 dX11_waterOf_22 (by decide) (by omega) (by omega) (fun h22 => ?_) (fun h22 => ?_)
    · refine jx_iload dX11_waterOf_36 rfl ?_
      refine jx_bipush (v := 12) dX11_waterOf_38 (by decide) ?_
      refine jx_iremE (z := nI ((tick / 4) % 12)) dX11_waterOf_40 (nI_ne0 (n := 12) (by omega) (by omega)) (pk_rem (a := (tick / 4)) (d := 12) (by omega) (by omega) (by omega)) ?_
      refine jx_iret dX11_waterOf_41 rfl ?_
      refine ⟨_, rfl, ?_, I, rfl, eqx_r _ _⟩
      unfold wlev usual
      rw [if_pos h12]
      first | rw [if_pos h22] | rw [if_neg (Nat.not_lt.mpr h22)]
    · refine jx_bipush (v := 12) dX11_waterOf_25 (by decide) ?_
      refine jx_iload dX11_waterOf_27 rfl ?_
      refine jx_bipush (v := 12) dX11_waterOf_29 (by decide) ?_
      refine jx_iremE (z := nI ((tick / 4) % 12)) dX11_waterOf_31 (nI_ne0 (n := 12) (by omega) (by omega)) (pk_rem (a := (tick / 4)) (d := 12) (by omega) (by omega) (by omega)) ?_
      refine jx_isubE (z := nI (12 - ((tick / 4) % 12))) dX11_waterOf_32 (pk_sub (a := 12) (b := ((tick / 4) % 12)) (by omega)) ?_
      refine jx_goto 41 dX11_waterOf_33 (by decide) ?_
      refine jx_iret dX11_waterOf_41 rfl ?_
      refine ⟨_, rfl, ?_, I, rfl, eqx_r _ _⟩
      unfold wlev usual
      rw [if_pos h12]
      first | rw [if_pos h22] | rw [if_neg (Nat.not_lt.mpr h22)]
end RC
