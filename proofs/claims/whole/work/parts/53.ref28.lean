/-! THE REFERENCE: how a rule of the water is read -/
def eqE (I J : Nat → Nat → Int32) : Prop := ∀ b j : Nat, prsF b j = false → ¬ (b = 1072 ∧ j = 33) → ¬ (b = 1082 ∧ 700 ≤ j) → J b j = I b j
theorem eqE_r (I : Nat → Nat → Int32) : eqE I I := fun _ _ _ _ _ => rfl
theorem eqE_t {I J K : Nat → Nat → Int32} (h1 : eqE I J) (h2 : eqE J K) : eqE I K := fun b j h p q => (h2 b j h p q).trans (h1 b j h p q)
theorem eqN_E {I J : Nat → Nat → Int32} (h : eqN I J) : eqE I J := fun b j p _ _ => h b j p
def RE (J : Nat → Nat → Int32) (sz : Nat) (tp : Nat → Nat) (y : (Nat × Nat × Nat) × List Int32) : Prop := P3 J sz tp y.1 ∧ J 1072 33 = nI y.2.length ∧ (∀ k, k < y.2.length → J 1082 (700 + k) = y.2.getD k 0) ∧ y.2.length < y.1.1
theorem RE.sz {J : Nat → Nat → Int32} {sz : Nat} {tp : Nat → Nat} {y : (Nat × Nat × Nat) × List Int32} (h : RE J sz tp y) : y.1.1 ≤ sz ∧ sz ≤ 700 ∧ y.1.2.1 ≤ 5 ∧ J 1069 24 = nI y.1.2.1 := ⟨h.1.1.2.2.1, h.1.1.1.2.1, h.1.1.2.2.2.2, h.1.1.2.2.2.1⟩
theorem RE_n {I J : Nat → Nat → Int32} {sz : Nat} {tp : Nat → Nat} {y : (Nat × Nat × Nat) × List Int32} {x : Nat × Nat × Nat} (h : RE I sz tp y) (he : eqN I J) (hP : P3 J sz tp x) (hl : y.2.length < x.1) : RE J sz tp (x, y.2) :=
  ⟨hP, (he 1072 33 (by decide)).trans h.2.1, fun k hk => (he 1082 (700 + k) (by unfold prsF stpF; simp)).trans (h.2.2.1 k hk), hl⟩
theorem P3_out {I J : Nat → Nat → Int32} {sz : Nat} {tp : Nat → Nat} {x : Nat × Nat × Nat} (h : P3 I sz tp x) (h1 : ∀ j, J 1069 j = I 1069 j) (h2 : ∀ j, J 1085 j = I 1085 j) : P3 J sz tp x := by
  obtain ⟨⟨hK, ⟨t18, t20, t22, t23, t21⟩, hbs, hbd, hb5⟩, hbp⟩ := h
  exact ⟨⟨⟨(h1 19).trans hK.1, hK.2.1, fun k hk => ⟨(h2 k).trans (hK.2.2 k hk).1, (hK.2.2 k hk).2⟩⟩, ⟨(h1 18).trans t18, (h1 20).trans t20, (h1 22).trans t22, (h1 23).trans t23, fun q => (h1 21).trans (t21 q)⟩, hbs, (h1 24).trans hbd, hb5⟩, fun q => (h1 25).trans (hbp q)⟩
def layH (I : Nat → Nat → Int32) (bd len : Nat) (s : Int32) : Nat → Nat → Int32 := if bd = 0 then upI (upI I 1082 (700 + len) s) 1072 33 (nI (len + 1)) else I
theorem layH_P {I : Nat → Nat → Int32} {sz : Nat} {tp : Nat → Nat} {x : Nat × Nat × Nat} (h : P3 I sz tp x) (bd len : Nat) (s : Int32) : P3 (layH I bd len s) sz tp x := by
  unfold layH
  split
  · exact P3_out h (fun j => (upI_nea' (by decide)).trans (upI_nea' (by decide))) (fun j => (upI_nea' (by decide)).trans (upI_nea' (by decide)))
  · exact h
theorem layH_e (I : Nat → Nat → Int32) (bd len : Nat) (s : Int32) : eqE I (layH I bd len s) := fun b j _ h1 h2 => by
  unfold layH
  split
  · have e1 : upI (upI I 1082 (700 + len) s) 1072 33 (nI (len + 1)) b j = upI I 1082 (700 + len) s b j := by
      unfold upI; rw [if_neg h1]
    rw [e1]
    unfold upI
    rw [if_neg (fun q => h2 ⟨q.1, by omega⟩)]
  · rfl
theorem layH_s {I : Nat → Nat → Int32} {acc : List Int32} {s : Int32} (h2 : I 1072 33 = nI acc.length) (h3 : ∀ k, k < acc.length → I 1082 (700 + k) = acc.getD k 0) : layH I 0 acc.length s 1072 33 = nI (acc ++ [s]).length ∧ ∀ k, k < (acc ++ [s]).length → layH I 0 acc.length s 1082 (700 + k) = (acc ++ [s]).getD k 0 := by
  unfold layH
  rw [if_pos rfl, List.length_append]
  refine ⟨upI_s, fun k hk => ?_⟩
  have hk2 : k < acc.length + 1 := hk
  rw [upI_nea' (by decide)]
  by_cases z : k = acc.length
  · rw [z, upI_s, List.getD_eq_getElem?_getD, List.getElem?_append_right (Nat.le_refl _), Nat.sub_self]; rfl
  · rw [upI_j (by omega), h3 k (by omega), List.getD_eq_getElem?_getD, List.getD_eq_getElem?_getD, List.getElem?_append_left (by omega)]
theorem RE_lay {I : Nat → Nat → Int32} {sz : Nat} {tp : Nat → Nat} {y : (Nat × Nat × Nat) × List Int32} (h : RE I sz tp y) (s : Int32) (hl : y.1.2.1 = 0 → y.2.length + 1 < y.1.1) : RE (layH I y.1.2.1 y.2.length s) sz tp (lyY s y) := by
  have hP := layH_P h.1 y.1.2.1 y.2.length s
  unfold lyY
  by_cases z : y.1.2.1 = 0
  · rw [if_pos z]
    have q := layH_s (s := s) h.2.1 h.2.2.1
    rw [z] at hP ⊢
    refine ⟨hP, q.1, q.2, ?_⟩
    show (y.2 ++ [s]).length < _
    rw [List.length_append]
    exact hl z
  · rw [if_neg z]
    unfold layH
    rw [if_neg z]
    exact h
theorem lpL_n {tp : Nat → Nat} {sz : Nat} {c : Nat × Nat × Nat → Option Int32} {F : (Nat × Nat × Nat) × List Int32 → (Nat × Nat × Nat) × List Int32} {g : Nat} {y : (Nat × Nat × Nat) × List Int32} (h : c y.1 = none) : lpL tp sz c F (g + 1) y = y := by rw [lpL, h]
theorem lpL_s {tp : Nat → Nat} {sz : Nat} {c : Nat × Nat × Nat → Option Int32} {F : (Nat × Nat × Nat) × List Int32 → (Nat × Nat × Nat) × List Int32} {g : Nat} {y : (Nat × Nat × Nat) × List Int32} {s : Int32} (h : c y.1 = some s) : lpL tp sz c F (g + 1) y = lpL tp sz c F g (lyY s (F (stX tp sz y.1, y.2))) := by rw [lpL, h]
section RB1
variable {w : jWD} {l : Launch} {n : Nat} {I J : Nat → Nat → Int32} {L : Nat → Nat → Int64} {R : Nat → Nat → Option Nat}
/-- the contract of one that reads a part of a rule -/
def CE (w : jWD) (l : Launch) (n : Nat) (L : Nat → Nat → Int64) (R : Nat → Nat → Option Nat) (sz : Nat) (tp : Nat → Nat) (M : jMI) (d a : Nat) (F : (Nat × Nat × Nat) × List Int32 → (Nat × Nat × Nat) × List Int32) : Prop := ∀ (I : Nat → Nat → Int32) (y : (Nat × Nat × Nat) × List Int32), RE I sz tp y → jRv w l M d [.ref 1069, .int (nI a)] (n, shE, I, L, R) (fun t => ∃ J, t = (n, shE, J, L, R) ∧ eqE I J ∧ RE J sz tp (F y))
theorem okVal : ∀ k, k < 4 → okW (47 + k) (wVal k) := fun k hk => by
  have : k = 0 ∨ k = 1 ∨ k = 2 ∨ k = 3 := by omega
  rcases this with rfl | rfl | rfl | rfl <;> exact ⟨by decide, ⟨_, rfl, rfl⟩, by decide, by decide⟩
theorem okKnd : ∀ k, k < 4 → okW (43 + k) (wKnd k) := fun k hk => by
  have : k = 0 ∨ k = 1 ∨ k = 2 ∨ k = 3 := by omega
  rcases this with rfl | rfl | rfl | rfl <;> exact ⟨by decide, ⟨_, rfl, rfl⟩, by decide, by decide⟩
theorem okNot : okW 57 [110, 111, 116] := ⟨by decide, ⟨_, rfl, rfl⟩, by decide, by decide⟩
theorem okAnd : okW 58 [97, 110, 100] := ⟨by decide, ⟨_, rfl, rfl⟩, by decide, by decide⟩
theorem okOr : okW 59 [111, 114] := ⟨by decide, ⟨_, rfl, rfl⟩, by decide, by decide⟩
theorem mkQ_b {tp : Nat → Nat} {sz b bd c : Nat} (h : bd ≠ 0) : mkQ tp sz b bd c = false := by unfold mkQ; rw [decide_eq_false h]; rfl
theorem isW_b {tp : Nat → Nat} {sz b bd : Nat} {cs : List Nat} (h : bd ≠ 0) : isW tp sz b bd cs = false := by unfold isW; rw [decide_eq_false h]; rfl

set_option maxHeartbeats 1000000 in
set_option maxRecDepth 20000 in
theorem tX11_readPart_b (hW : jWok w l) (hR : RS R) {sz b bd : Nat} {tp : Nat → Nat} (hP : PSt I sz tp b bd) (hb : bd ≠ 0) (a : Int32) : jCD w l mX11_readPart 1 [.ref 1069, .int a] (n, shE, I, L, R) none (n, shE, I, L, R) := by
  refine jCD_of hW (by decide) rfl (Nat.le_of_ble_eq_true rfl) ?_
  have hb5 := hP.2.2.2.2
  refine jx_aload_n dX11_readPart_0 rfl ?_
  refine jx_getIE dX11_readPart_1 flX11_240 rfl rfl (hP.2.2.2.1) ?_
  refine jx_ifN_eq (a := bd) 8 dX11_readPart_4 (by decide) (by omega) (fun h4 => ?_) (fun h4 => ?_)
  · exact absurd h4 hb
  · refine jx_vret dX11_readPart_7 rfl ?_
    exact ⟨rfl, rfl⟩
set_option maxHeartbeats 1000000 in
set_option maxRecDepth 20000 in
theorem tX11_readProduct_b (hW : jWok w l) (hR : RS R) {sz b bd : Nat} {tp : Nat → Nat} (hP : PSt I sz tp b bd) (hb : bd ≠ 0) (a : Int32) : jCD w l mX11_readProduct 2 [.ref 1069, .int a] (n, shE, I, L, R) none (n, shE, I, L, R) := by
  refine jCD_of hW (by decide) rfl (Nat.le_of_ble_eq_true rfl) ?_
  have hb5 := hP.2.2.2.2
  refine jx_aload_n dX11_readProduct_0 rfl ?_
  refine jx_iload_n dX11_readProduct_1 rfl ?_
  refine jx_Vv (as := [.int _]) dX11_readProduct_2 mlX11_287 okX11_readPart viX11_readPart rfl rfl rfl rfl rfl (by decide) (Nat.le_of_ble_eq_true rfl) (tX11_readPart_b hW hR hP hb a) ?_
  refine jx_aload_n dX11_readProduct_5 rfl ?_
  refine jx_bipush (v := 42) dX11_readProduct_6 (by decide) ?_
  refine jx_Vi (as := [.int _]) dX11_readProduct_8 mlX11_258 okX11_isMarked viX11_isMarked rfl rfl rfl rfl rfl (by decide) (Nat.le_of_ble_eq_true rfl) ((mkQ_b (tp := tp) (sz := sz) (b := b) (c := 42) hb) ▸ tX11_isMarked (c := 42) hW hR hP (by omega)) ?_
  refine jx_ifB_ne 23 dX11_readProduct_11 (by decide) (fun h11 => by cases h11) (fun h11 => ?_)
  refine jx_aload_n dX11_readProduct_14 rfl ?_
  refine jx_bipush (v := 47) dX11_readProduct_15 (by decide) ?_
  refine jx_Vi (as := [.int _]) dX11_readProduct_17 mlX11_258 okX11_isMarked viX11_isMarked rfl rfl rfl rfl rfl (by decide) (Nat.le_of_ble_eq_true rfl) ((mkQ_b (tp := tp) (sz := sz) (b := b) (c := 47) hb) ▸ tX11_isMarked (c := 47) hW hR hP (by omega)) ?_
  refine jx_ifB_eq 57 dX11_readProduct_20 (by decide) (fun h20 => ?_) (fun h20 => by cases h20)
  refine jx_vret dX11_readProduct_57 rfl ?_
  exact ⟨rfl, rfl⟩
set_option maxHeartbeats 1000000 in
set_option maxRecDepth 20000 in
theorem tX11_readSum_b (hW : jWok w l) (hR : RS R) {sz b bd : Nat} {tp : Nat → Nat} (hP : PSt I sz tp b bd) (hb : bd ≠ 0) (a : Int32) : jCD w l mX11_readSum 3 [.ref 1069, .int a] (n, shE, I, L, R) none (n, shE, I, L, R) := by
  refine jCD_of hW (by decide) rfl (Nat.le_of_ble_eq_true rfl) ?_
  have hb5 := hP.2.2.2.2
  refine jx_aload_n dX11_readSum_0 rfl ?_
  refine jx_iload_n dX11_readSum_1 rfl ?_
  refine jx_Vv (as := [.int _]) dX11_readSum_2 mlX11_290 okX11_readProduct viX11_readProduct rfl rfl rfl rfl rfl (by decide) (Nat.le_of_ble_eq_true rfl) (tX11_readProduct_b hW hR hP hb a) ?_
  refine jx_aload_n dX11_readSum_5 rfl ?_
  refine jx_bipush (v := 43) dX11_readSum_6 (by decide) ?_
  refine jx_Vi (as := [.int _]) dX11_readSum_8 mlX11_258 okX11_isMarked viX11_isMarked rfl rfl rfl rfl rfl (by decide) (Nat.le_of_ble_eq_true rfl) ((mkQ_b (tp := tp) (sz := sz) (b := b) (c := 43) hb) ▸ tX11_isMarked (c := 43) hW hR hP (by omega)) ?_
  refine jx_ifB_ne 23 dX11_readSum_11 (by decide) (fun h11 => by cases h11) (fun h11 => ?_)
  refine jx_aload_n dX11_readSum_14 rfl ?_
  refine jx_bipush (v := 45) dX11_readSum_15 (by decide) ?_
  refine jx_Vi (as := [.int _]) dX11_readSum_17 mlX11_258 okX11_isMarked viX11_isMarked rfl rfl rfl rfl rfl (by decide) (Nat.le_of_ble_eq_true rfl) ((mkQ_b (tp := tp) (sz := sz) (b := b) (c := 45) hb) ▸ tX11_isMarked (c := 45) hW hR hP (by omega)) ?_
  refine jx_ifB_eq 57 dX11_readSum_20 (by decide) (fun h20 => ?_) (fun h20 => by cases h20)
  refine jx_vret dX11_readSum_57 rfl ?_
  exact ⟨rfl, rfl⟩
set_option maxHeartbeats 1000000 in
set_option maxRecDepth 20000 in
theorem tX11_readNot_b (hW : jWok w l) (hR : RS R) {sz b bd : Nat} {tp : Nat → Nat} (hP : PSt I sz tp b bd) (hb : bd ≠ 0) (a : Int32) : jCD w l mX11_readNot 6 [.ref 1069, .int a] (n, shE, I, L, R) none (n, shE, I, L, R) := by
  refine jCD_of hW (by decide) rfl (Nat.le_of_ble_eq_true rfl) ?_
  have hb5 := hP.2.2.2.2
  refine jx_iconst (v := 0) dX11_readNot_0 (by decide) ?_
  refine jx_istore_n dX11_readNot_1 rfl (by decide) ?_
  refine jx_aload_n dX11_readNot_2 rfl ?_
  refine jx_ldcSW 57 dX11_readNot_3 rfl rfl rfl (by decide) ?_
  refine jx_Vi (as := [.ref _]) dX11_readNot_6 mlX11_254 okX11_is viX11_is rfl rfl rfl rfl rfl (by decide) (Nat.le_of_ble_eq_true rfl) ((isW_b (tp := tp) (sz := sz) (b := b) (cs := [110, 111, 116]) hb) ▸ tX11_is hW hR hP okNot) ?_
  refine jx_ifB_eq 40 dX11_readNot_9 (by decide) (fun h9 => ?_) (fun h9 => by cases h9)
  refine jx_aload_n dX11_readNot_40 rfl ?_
  refine jx_iload_n dX11_readNot_41 rfl ?_
  refine jx_Vv (as := [.int _]) dX11_readNot_42 mlX11_295 okX11_readSum viX11_readSum rfl rfl rfl rfl rfl (by decide) (Nat.le_of_ble_eq_true rfl) (tX11_readSum_b hW hR hP hb a) ?_
  refine jx_aload_n dX11_readNot_45 rfl ?_
  refine jx_bipush (v := 60) dX11_readNot_46 (by decide) ?_
  refine jx_Vi (as := [.int _]) dX11_readNot_48 mlX11_258 okX11_isMarked viX11_isMarked rfl rfl rfl rfl rfl (by decide) (Nat.le_of_ble_eq_true rfl) ((mkQ_b (tp := tp) (sz := sz) (b := b) (c := 60) hb) ▸ tX11_isMarked (c := 60) hW hR hP (by omega)) ?_
  refine jx_ifB_ne 63 dX11_readNot_51 (by decide) (fun h51 => by cases h51) (fun h51 => ?_)
  refine jx_aload_n dX11_readNot_54 rfl ?_
  refine jx_bipush (v := 61) dX11_readNot_55 (by decide) ?_
  refine jx_Vi (as := [.int _]) dX11_readNot_57 mlX11_258 okX11_isMarked viX11_isMarked rfl rfl rfl rfl rfl (by decide) (Nat.le_of_ble_eq_true rfl) ((mkQ_b (tp := tp) (sz := sz) (b := b) (c := 61) hb) ▸ tX11_isMarked (c := 61) hW hR hP (by omega)) ?_
  refine jx_ifB_eq 94 dX11_readNot_60 (by decide) (fun h60 => ?_) (fun h60 => by cases h60)
  refine jx_iconst (v := 0) dX11_readNot_94 (by decide) ?_
  refine jx_istore_n dX11_readNot_95 rfl (by decide) ?_
  refine jx_iload_n dX11_readNot_96 rfl ?_
  refine jx_iload_n dX11_readNot_97 rfl ?_
  refine jx_icmpN_ge (a := 0) (b := 0) 113 dX11_readNot_98 (by decide) (by decide) (by decide) (fun h98 => ?_) (fun h98 => absurd h98 (by decide))
  refine jx_vret dX11_readNot_113 rfl ?_
  exact ⟨rfl, rfl⟩
set_option maxHeartbeats 1000000 in
set_option maxRecDepth 20000 in
theorem tX11_readAnd_b (hW : jWok w l) (hR : RS R) {sz b bd : Nat} {tp : Nat → Nat} (hP : PSt I sz tp b bd) (hb : bd ≠ 0) (a : Int32) : jCD w l mX11_readAnd 7 [.ref 1069, .int a] (n, shE, I, L, R) none (n, shE, I, L, R) := by
  refine jCD_of hW (by decide) rfl (Nat.le_of_ble_eq_true rfl) ?_
  have hb5 := hP.2.2.2.2
  refine jx_aload_n dX11_readAnd_0 rfl ?_
  refine jx_iload_n dX11_readAnd_1 rfl ?_
  refine jx_Vv (as := [.int _]) dX11_readAnd_2 mlX11_298 okX11_readNot viX11_readNot rfl rfl rfl rfl rfl (by decide) (Nat.le_of_ble_eq_true rfl) (tX11_readNot_b hW hR hP hb a) ?_
  refine jx_aload_n dX11_readAnd_5 rfl ?_
  refine jx_ldcSW 58 dX11_readAnd_6 rfl rfl rfl (by decide) ?_
  refine jx_Vi (as := [.ref _]) dX11_readAnd_9 mlX11_254 okX11_is viX11_is rfl rfl rfl rfl rfl (by decide) (Nat.le_of_ble_eq_true rfl) ((isW_b (tp := tp) (sz := sz) (b := b) (cs := [97, 110, 100]) hb) ▸ tX11_is hW hR hP okAnd) ?_
  refine jx_ifB_eq 33 dX11_readAnd_12 (by decide) (fun h12 => ?_) (fun h12 => by cases h12)
  refine jx_vret dX11_readAnd_33 rfl ?_
  exact ⟨rfl, rfl⟩
set_option maxHeartbeats 1000000 in
set_option maxRecDepth 20000 in
theorem tX11_readPart (hW : jWok w l) (hR : RS R) {sz d a : Nat} {tp : Nat → Nat} {E : ((Nat × Nat × Nat) × List Int32 → (Nat × Nat × Nat) × List Int32)} (hd : 6 ≤ d) (hE : CE w l n L R sz tp mX11_readExpression d (a + 1) E) (hm : moE sz E) : CE w l n L R sz tp mX11_readPart (d + 1) a (partE tp sz E) := by
  rintro I ⟨⟨b, bd, bp⟩, acc⟩ hRE
  refine jRv_of hW (by decide) rfl (Nat.le_of_ble_eq_true rfl) ?_
  obtain ⟨hbs, hs7, hb5, hbd⟩ := hRE.sz
  have hP : P3 I sz tp (b, bd, bp) := hRE.1
  have hkl := tKd_le tp sz b
  have hlb : acc.length < b := hRE.2.2.2
  have hlh : I 1072 33 = nI acc.length := hRE.2.1
  have hbs : b ≤ sz := hbs
  have hb5 : bd ≤ 5 := hb5
  have hbd : I 1069 24 = nI bd := hbd
  have hnl := nxt_le (tp := tp) hbs
  refine jx_aload_n dX11_readPart_0 rfl ?_
  refine jx_getIE dX11_readPart_1 flX11_240 rfl rfl (hbd) ?_
  refine jx_ifN_eq (a := bd) 8 dX11_readPart_4 (by decide) (by omega) (fun h4 => ?_) (fun h4 => ?_)
  · subst h4
    refine jx_aload_n dX11_readPart_8 rfl ?_
    refine jx_getIE dX11_readPart_9 flX11_214 rfl rfl (hP.1.2.1.2.1) ?_
    refine jx_iconst (v := 2) dX11_readPart_12 (by decide) ?_
    refine jx_icmpN_ne (a := (tKd tp sz b)) (b := 2) 29 dX11_readPart_13 (by decide) (by omega) (by omega) (fun h13 => ?_) (fun h13 => ?_)
    · refine jx_aload_n dX11_readPart_29 rfl ?_
      refine jx_getIE dX11_readPart_30 flX11_214 rfl rfl (hP.1.2.1.2.1) ?_
      refine jx_iconst (v := 1) dX11_readPart_33 (by decide) ?_
      refine jx_icmpN_ne (a := (tKd tp sz b)) (b := 1) 75 dX11_readPart_34 (by decide) (by omega) (by omega) (fun h34 => ?_) (fun h34 => ?_)
      · have hpe : partE tp sz E ((b, 0, bp), acc) = (pMk tp sz 41 (E (pMk tp sz 40 (b, 0, bp), acc)).1, (E (pMk tp sz 40 (b, 0, bp), acc)).2) := by unfold partE; rw [if_neg (fun q => q rfl), if_neg h13, if_neg h34]
        refine jx_aload_n dX11_readPart_75 rfl ?_
        refine jx_bipush (v := 40) dX11_readPart_76 (by decide) ?_
        refine jx_VRv (as := [.int _]) dX11_readPart_78 mlX11_281 okX11_mark viX11_mark rfl rfl rfl rfl rfl (by omega) (Nat.le_of_ble_eq_true rfl) (tX11_mark (c := 40) hW hR hP (by omega)) (fun t78 hq78 => ?_)
        obtain ⟨J1, rfl, he1, hP1⟩ := hq78
        have hp1 := pMk_le (tp := tp) (c := 40) (x := (b, 0, bp)) hbs
        have hp11 : b ≤ (pMk tp sz 40 (b, 0, bp)).1 := hp1.1
        have hR1 : RE J1 sz tp (pMk tp sz 40 (b, 0, bp), acc) := RE_n hRE he1 hP1 (by show acc.length < _; omega)
        refine jx_aload_n dX11_readPart_81 rfl ?_
        refine jx_iload_n dX11_readPart_82 rfl ?_
        refine jx_iconst (v := 1) dX11_readPart_83 (by decide) ?_
        refine jx_iaddE (z := nI (a + 1)) dX11_readPart_84 (nI_add a 1) ?_
        refine jx_VRv (as := [.int _]) dX11_readPart_85 mlX11_284 okX11_readExpression viX11_readExpression rfl rfl rfl rfl rfl (by omega) (Nat.le_of_ble_eq_true rfl) (hE J1 (pMk tp sz 40 (b, 0, bp), acc) hR1) (fun t85 hq85 => ?_)
        obtain ⟨J2, rfl, he2, hR2⟩ := hq85
        have hp2 := pMk_le (tp := tp) (c := 41) hR2.sz.1
        refine jx_aload_n dX11_readPart_88 rfl ?_
        refine jx_bipush (v := 41) dX11_readPart_89 (by decide) ?_
        refine jx_VRv (as := [.int _]) dX11_readPart_91 mlX11_281 okX11_mark viX11_mark rfl rfl rfl rfl rfl (by omega) (Nat.le_of_ble_eq_true rfl) (tX11_mark (c := 41) (b := (E (pMk tp sz 40 (b, 0, bp), acc)).1.1) (bd := (E (pMk tp sz 40 (b, 0, bp), acc)).1.2.1) (bp := (E (pMk tp sz 40 (b, 0, bp), acc)).1.2.2) hW hR hR2.1 (by omega)) (fun t91 hq91 => ?_)
        obtain ⟨J3, rfl, he3, hP3⟩ := hq91
        refine jx_vret dX11_readPart_94 rfl ?_
        exact ⟨rfl, _, rfl, eqE_t (eqN_E he1) (eqE_t he2 (eqN_E he3)), by rw [hpe]; exact RE_n hR2 he3 hP3 (Nat.lt_of_lt_of_le hR2.2.2.2 hp2.1)⟩
      · refine jx_aload_n dX11_readPart_37 rfl ?_
        refine jx_aload_n dX11_readPart_38 rfl ?_
        refine jx_getR dX11_readPart_39 flX11_31 rfl rfl (hR _ _ _ rfl) ?_
        refine jx_Vi (as := [.ref _]) dX11_readPart_42 mlX11_277 okX11_which viX11_which rfl rfl rfl rfl rfl (by omega) (Nat.le_of_ble_eq_true rfl) (tX11_which hW hR hP.1 (a := 1071) (i0 := 47) (ws := wVal) rfl (by decide) okVal) ?_
        refine jx_istore_n dX11_readPart_45 rfl (by decide) ?_
        cases hv : fnd (fun k => isW tp sz b 0 (wVal k)) 4 with
        | none =>
          refine jx_iload_n dX11_readPart_46 rfl ?_
          refine jx_iconst (v := -1) dX11_readPart_47 (by decide) ?_
          refine jx_icmp_ne 56 dX11_readPart_48 (by decide) (fun h48 => ?_) (fun h48 => ?_)
          · exact absurd rfl h48
          · refine jx_aload_n dX11_readPart_51 rfl ?_
            refine jx_iconst (v := 3) dX11_readPart_52 (by decide) ?_
            refine jx_Vv (as := [.int _]) dX11_readPart_53 mlX11_261 okX11_wrong viX11_wrong rfl rfl rfl rfl rfl (by omega) (Nat.le_of_ble_eq_true rfl) (tX11_wrongP (k := 3) hW hP.1) ?_
            have hw : P3 (wrg I 0 3) sz tp (b, 3, b) := P3_wr hP (k := 3) (by omega) (by omega)
            refine jx_aload_n dX11_readPart_56 rfl ?_
            refine jx_iconst (v := -1) dX11_readPart_57 (by decide) ?_
            refine jx_iload_n dX11_readPart_58 rfl ?_
            refine jx_isub dX11_readPart_59 ?_
            refine jx_Vv (as := [.int _]) dX11_readPart_60 mlX11_274 okX11_lay viX11_lay rfl rfl rfl rfl rfl (by omega) (Nat.le_of_ble_eq_true rfl) (tX11_lay hW hR (bd := 3) (len := acc.length) hw.1.2.2.2.1 (by omega) ((wrg_n 0 3 1072 33 (by decide)).trans hlh) (by omega) _) ?_
            rw [if_neg (show ¬ (3 = 0) by decide)]
            refine jx_aload_n dX11_readPart_63 rfl ?_
            refine jx_getIE dX11_readPart_64 flX11_240 rfl rfl (hw.1.2.2.2.1) ?_
            refine jx_ifN_ne (a := 3) 74 dX11_readPart_67 (by decide) (by decide) (fun h67 => ?_) (fun h67 => absurd h67 (by decide))
            refine jx_vret dX11_readPart_74 rfl ?_
            have hpe : partE tp sz E ((b, 0, bp), acc) = ((b, 3, b), acc) := by
              unfold partE
              rw [if_neg (fun q => q rfl), if_neg h13, if_pos h34]
              unfold valX
              rw [hv]
              rfl
            exact ⟨rfl, _, rfl, eqN_E (wrg_n 0 3), by rw [hpe]; exact RE_n hRE (wrg_n 0 3) hw hlb⟩
        | some v =>
          have hv4 := fnd_lt hv
          refine jx_iload_n dX11_readPart_46 rfl ?_
          refine jx_iconst (v := -1) dX11_readPart_47 (by decide) ?_
          refine jx_icmp_ne 56 dX11_readPart_48 (by decide) (fun h48 => ?_) (fun h48 => ?_)
          · refine jx_aload_n dX11_readPart_56 rfl ?_
            refine jx_iconst (v := -1) dX11_readPart_57 (by decide) ?_
            refine jx_iload_n dX11_readPart_58 rfl ?_
            refine jx_isub dX11_readPart_59 ?_
            refine jx_Vv (as := [.int _]) dX11_readPart_60 mlX11_274 okX11_lay viX11_lay rfl rfl rfl rfl rfl (by omega) (Nat.le_of_ble_eq_true rfl) (tX11_lay hW hR (bd := 0) (len := acc.length) hbd (by omega) hlh (by omega) _) ?_
            have hPl : P3 (layH I 0 acc.length (-1 - nI v)) sz tp (b, 0, bp) := layH_P hP _ _ _
            refine jx_aload_n dX11_readPart_63 rfl ?_
            refine jx_getIE dX11_readPart_64 flX11_240 rfl rfl (hPl.1.2.2.2.1) ?_
            refine jx_ifN_ne (a := 0) 74 dX11_readPart_67 (by decide) (by decide) (fun h67 => absurd h67 (by decide)) (fun h67 => ?_)
            refine jx_aload_n dX11_readPart_70 rfl ?_
            refine jx_VRv (as := []) dX11_readPart_71 mlX11_265 okX11_stepOn viX11_stepOn rfl rfl rfl rfl rfl (by omega) (Nat.le_of_ble_eq_true rfl) (tX11_stepOn hW hR hPl.1.1 hPl.1.2.1.1 (tEnd_le hPl.1.2.2.1).2) (fun t71 hq71 => ?_)
            obtain ⟨J1, rfl, he1, hts⟩ := hq71
            have hP1 := P3_step hPl he1 hts
            refine jx_vret dX11_readPart_74 rfl ?_
            have hpe : partE tp sz E ((b, 0, bp), acc) = ((nxt tp sz b, 0, bp), acc ++ [-1 - nI v]) := by
              unfold partE
              rw [if_neg (fun q => q rfl), if_neg h13, if_pos h34]
              unfold valX
              rw [hv]
              rfl
            have hll := layH_s (s := -1 - nI v) hlh hRE.2.2.1
            have hgt : b < nxt tp sz b := nxt_lt hbs (by rw [h34]; decide)
            refine ⟨rfl, _, rfl, eqE_t (layH_e _ _ _ _) (eqN_E (eqT_n he1)), ?_⟩
            rw [hpe]
            refine ⟨hP1, ((eqT_n he1) 1072 33 (by decide)).trans hll.1, fun k hk => ((eqT_n he1) 1082 (700 + k) (by unfold prsF stpF; simp)).trans (hll.2 k hk), ?_⟩
            show (acc ++ [_]).length < nxt tp sz b
            rw [List.length_append]
            show acc.length + 1 < _
            omega
          · exact absurd h48 (fun q => by
              have q2 := congrArg Int32.toInt (show nI v = -1 from q)
              rw [nI_toInt (by omega)] at q2
              have : (-1 : Int32).toInt = -1 := by decide
              omega)
    · have hpe : partE tp sz E ((b, 0, bp), acc) = lyY (nI (vNu tp sz 0 9999 (b, 0, bp))) (pNu tp sz 0 9999 (b, 0, bp), acc) := by unfold partE; rw [if_neg (fun q => q rfl), if_pos h13]
      refine jx_aload_n dX11_readPart_16 rfl ?_
      refine jx_aload_n dX11_readPart_17 rfl ?_
      refine jx_iconst (v := 0) dX11_readPart_18 (by decide) ?_
      refine jx_sipush (v := 9999) dX11_readPart_19 (by decide) ?_
      refine jx_VRi (as := [.int _, .int _]) dX11_readPart_22 mlX11_271 okX11_readNumber viX11_readNumber rfl rfl rfl rfl rfl (by omega) (Nat.le_of_ble_eq_true rfl) (tX11_readNumber (lo := 0) (hi := 9999) hW hR hP (by omega) (by omega)) (fun x22 t22 hq22 => ?_)
      obtain ⟨rfl, J1, rfl, he1, hP1⟩ := hq22
      have hpl : acc.length + 1 < (pNu tp sz 0 9999 (b, 0, bp)).1 ∨ ¬ (pNu tp sz 0 9999 (b, 0, bp)).2.1 = 0 := by
        unfold pNu
        rw [if_pos rfl]
        by_cases z : numC tp sz b 0 9999 = 0
        · left
          rw [show (if numC tp sz (b, 0, bp).1 0 9999 = 0 then (nxt tp sz (b, 0, bp).1, 0, (b, 0, bp).2.2) else ((b, 0, bp).1, numC tp sz (b, 0, bp).1 0 9999, (b, 0, bp).1)) = (nxt tp sz b, 0, bp) from if_pos z]
          have hgt : b < nxt tp sz b := nxt_lt hbs (by rw [h13]; decide)
          show _ < nxt tp sz b
          omega
        · right
          rw [show (if numC tp sz (b, 0, bp).1 0 9999 = 0 then (nxt tp sz (b, 0, bp).1, 0, (b, 0, bp).2.2) else ((b, 0, bp).1, numC tp sz (b, 0, bp).1 0 9999, (b, 0, bp).1)) = (b, numC tp sz b 0 9999, b) from if_neg z]
          exact z
      have hpm : b ≤ (pNu tp sz 0 9999 (b, 0, bp)).1 := by
        unfold pNu
        rw [if_pos rfl]
        split
        · exact hnl.1
        · exact Nat.le_refl _
      have hR1 : RE J1 sz tp (pNu tp sz 0 9999 (b, 0, bp), acc) := RE_n hRE he1 hP1 (by show acc.length < _; omega)
      refine jx_Vv (as := [.int _]) dX11_readPart_25 mlX11_274 okX11_lay viX11_lay rfl rfl rfl rfl rfl (by omega) (Nat.le_of_ble_eq_true rfl) (tX11_lay hW hR (bd := (pNu tp sz 0 9999 (b, 0, bp)).2.1) (len := acc.length) hR1.sz.2.2.2 hR1.sz.2.2.1 hR1.2.1 (by omega) _) ?_
      refine jx_vret dX11_readPart_28 rfl ?_
      exact ⟨rfl, _, rfl, eqE_t (eqN_E he1) (layH_e _ _ _ _), by rw [hpe]; exact RE_lay hR1 _ (fun q => by rcases hpl with h | h; exact h; exact absurd q h)⟩
  · refine jx_vret dX11_readPart_7 rfl ?_
    exact ⟨rfl, _, rfl, eqE_r _, by rw [show partE tp sz E ((b, bd, bp), acc) = ((b, bd, bp), acc) from by unfold partE; rw [if_pos h4]]; exact hRE⟩
end RB1
