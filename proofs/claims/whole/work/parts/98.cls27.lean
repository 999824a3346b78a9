/-! THE CLASS: what the tokens are asked for -/
def C3 (J : Nat → Nat → Int32) (sz : Nat) (tp : Nat → Nat) (x : Nat × Nat × Nat) : Prop := CT J sz tp ∧ CK J sz tp x.1 ∧ x.1 ≤ sz ∧ J 1005 6 = nI x.2.1 ∧ (x.2.1 ≠ 0 → J 1005 7 = nI x.2.2)
/-- what the reader's steps change: its tokens, and the last number -/
def tkR (b j : Nat) : Bool := decide (b = 1005 ∧ 2 ≤ j ∧ j ≤ 7) || decide (b = 1004 ∧ j = 4)
def eqR (I J : Nat → Nat → Int32) : Prop := ∀ b j : Nat, tkR b j = false → J b j = I b j
theorem eqR_r (I : Nat → Nat → Int32) : eqR I I := fun _ _ _ => rfl
theorem eqR_t {I J K : Nat → Nat → Int32} (h1 : eqR I J) (h2 : eqR J K) : eqR I K := fun b j h => (h2 b j h).trans (h1 b j h)
theorem eqR_u {I J : Nat → Nat → Int32} {a k : Nat} {v : Int32} (h : eqR I J) (ha : tkR a k = true) : eqR I (upI J a k v) := fun b j hb => by
  by_cases e : b = a ∧ j = k
  · rw [e.1, e.2, ha] at hb; cases hb
  · have : upI J a k v b j = J b j := by simp [upI, e]
    rw [this]; exact h b j hb
theorem eqV_R {I J : Nat → Nat → Int32} (h : eqV I J) : eqR I J := fun b j hb => h b j (by
  unfold tkR at hb
  rw [Bool.or_eq_false_iff] at hb
  have := of_decide_eq_false hb.1
  exact decide_eq_false (fun q => this ⟨q.1, by omega, by omega⟩))
theorem CT.r {I J : Nat → Nat → Int32} {sz : Nat} {tp : Nat → Nat} (h : CT I sz tp) (he : eqR I J) : CT J sz tp :=
  ⟨(he 1005 1 (by decide)).trans h.1, h.2.1, fun k hk => ⟨(he 1001 k (by unfold tkR; simp)).trans (h.2.2 k hk).1, (h.2.2 k hk).2⟩⟩
theorem mrk_40 : ∀ v, mrkQ v = true → 40 ≤ v := fun v h => by have := of_decide_eq_true h; omega
theorem tKd_3 {tp : Nat → Nat} {sz b : Nat} (h : tKd tp sz b = 3) : mrkQ (tp b) = true := by
  unfold tKd at h
  split at h
  · cases h
  · split at h
    · cases h
    · split at h
      · cases h
      · split at h
        · rename_i q; exact q
        · cases h
theorem kdC_lt {I : Nat → Nat → Int32} {sz : Nat} {tp : Nat → Nat} (h : CT I sz tp) (b : Nat) : kdC tp sz b < 256 := by
  unfold kdC
  split
  · decide
  · split
    · decide
    · split
      · decide
      · split
        · rename_i q; exact (h.2.2 b (tKd_lt (by rw [q]; decide))).2
        · decide
theorem kdC_s {tp : Nat → Nat} {sz b : Nat} : (kdC tp sz b = 1 ↔ tKd tp sz b = 0) ∧ (kdC tp sz b = 2 ↔ tKd tp sz b = 1) ∧ (kdC tp sz b = 3 ↔ tKd tp sz b = 2) := by
  have hl := tKd_le tp sz b
  have h3 : tKd tp sz b = 3 → 40 ≤ tp b := fun q => mrk_40 _ (tKd_3 q)
  unfold kdC
  split
  · omega
  · split
    · omega
    · split
      · omega
      · split
        · rename_i q; have := h3 q; omega
        · omega
theorem kdC_mk {tp : Nat → Nat} {sz b c : Nat} (hc : 40 ≤ c) : kdC tp sz b = c ↔ mkQ tp sz b 0 c = true := by
  have : mkQ tp sz b 0 c = true ↔ tKd tp sz b = 3 ∧ tp b = c := by
    unfold mkQ
    simp only [Bool.and_eq_true, decide_eq_true_eq]
    exact ⟨fun q => ⟨q.1.2, q.2⟩, fun q => ⟨⟨trivial, q.1⟩, q.2⟩⟩
  rw [this]
  unfold kdC
  split
  · omega
  · split
    · omega
    · split
      · omega
      · split
        · omega
        · omega
theorem numC_v {tp : Nat → Nat} {sz b lo hi : Nat} (h2 : tKd tp sz b = 2) (hi9 : hi ≤ 9999) : numC tp sz b lo hi = if vlC tp b (tEnd tp sz b - b) < lo ∨ hi < vlC tp b (tEnd tp sz b - b) then 2 else 0 := by
  unfold numC vlC
  rw [if_neg (fun q => q h2)]
  by_cases e : tEnd tp sz b - b ≤ 4
  · rw [if_pos e]
    by_cases z : tVal tp b (tEnd tp sz b - b) < lo ∨ hi < tVal tp b (tEnd tp sz b - b)
    · rw [if_pos z, if_pos (Or.inr z)]
    · rw [if_neg z, if_neg (by omega)]
  · rw [if_neg e, if_pos (Or.inl (by omega)), if_pos (Or.inr (by omega))]
theorem numC_m {tp : Nat → Nat} {sz b lo hi : Nat} (h2 : ¬ tKd tp sz b = 2) : numC tp sz b lo hi = 1 := if_pos h2
theorem numV_c {tp : Nat → Nat} {sz b lo hi : Nat} (h : numC tp sz b lo hi = 0) : vlC tp b (tEnd tp sz b - b) = numV tp sz b ∧ lo ≤ numV tp sz b ∧ numV tp sz b ≤ hi := by
  have h2 := numC_t h
  unfold numC at h
  rw [if_neg (fun q => q h2)] at h
  by_cases e : 4 < tEnd tp sz b - b ∨ tVal tp b (tEnd tp sz b - b) < lo ∨ hi < tVal tp b (tEnd tp sz b - b)
  · rw [if_pos e] at h; cases h
  · refine ⟨if_pos (by omega), ?_⟩
    show lo ≤ tVal tp b _ ∧ tVal tp b _ ≤ hi
    omega
theorem vlC_lt {tp : Nat → Nat} {b m : Nat} (h : m ≤ 4 → tVal tp b m < 10000) : vlC tp b m ≤ 10000 := by
  unfold vlC
  split
  · have := h (by omega); omega
  · omega
def nuX (tp : Nat → Nat) (sz lo hi : Nat) (x : Nat × Nat × Nat) : Nat × Nat × Nat := if numC tp sz x.1 lo hi = 0 then x else (x.1, numC tp sz x.1 lo hi, x.1)
section CZ2
variable {w : jWD} {l : Launch} {n : Nat} {I J : Nat → Nat → Int32} {L : Nat → Nat → Int64} {R : Nat → Nat → Option Nat}
theorem C3_adv {sz b bd bp : Nat} {tp : Nat → Nat} (h : C3 I sz tp (b, bd, bp)) (he : eqV I J) (hc : CK J sz tp (tBeg tp sz (tEnd tp sz b))) : C3 J sz tp (nxt tp sz b, bd, bp) :=
  ⟨h.1.t he, hc, (nxt_le h.2.2.1).2, (he 1005 6 (by decide)).trans h.2.2.2.1, fun q => (he 1005 7 (by decide)).trans (h.2.2.2.2 q)⟩
/-- what lies outside of the tokens does not matter -/
theorem C3.f {sz : Nat} {tp : Nat → Nat} {x : Nat × Nat × Nat} (h : C3 I sz tp x) (h1 : ∀ j, J 1005 j = I 1005 j) (h2 : ∀ j, J 1001 j = I 1001 j) : C3 J sz tp x :=
  ⟨⟨(h1 1).trans h.1.1, h.1.2.1, fun k hk => ⟨(h2 k).trans (h.1.2.2 k hk).1, (h.1.2.2 k hk).2⟩⟩, ⟨(h1 2).trans h.2.1.1, (h1 3).trans h.2.1.2.1, (h1 4).trans h.2.1.2.2.1, fun q => ⟨(h1 5).trans (h.2.1.2.2.2 q).1, (h.2.1.2.2.2 q).2⟩⟩, h.2.2.1, (h1 6).trans h.2.2.2.1, fun q => (h1 7).trans (h.2.2.2.2 q)⟩
theorem tEnd_7 {sz b bd bp : Nat} {tp : Nat → Nat} (h : C3 I sz tp (b, bd, bp)) : b ≤ tEnd tp sz b ∧ tEnd tp sz b ≤ 700 ∧ tEnd tp sz b ≤ sz := by
  have h0 : b ≤ sz := h.2.2.1
  have h1 := tEnd_le (tp := tp) h0
  have := h.1.2.1
  exact ⟨by omega, by omega, by omega⟩

set_option maxHeartbeats 1000000 in
set_option maxRecDepth 20000 in
theorem tX9_refuse (hW : jWok w l) (hR : RS R) {sz b bp : Nat} {tp : Nat → Nat} (hx : C3 I sz tp (b, 0, bp)) {k : Nat} (hk : k ≠ 0) : jRi w l mX9_refuse 1 [.ref 1005, .int (nI k)] (n, shE, I, L, R) (fun r t => ∃ J, t = (n, shE, J, L, R) ∧ eqR I J ∧ C3 J sz tp (b, k, b) ∧ r = jb (false)) := by
  refine jRi_of hW (by decide) rfl (Nat.le_of_ble_eq_true rfl) ?_
  refine jx_aload_n dX9_refuse_0 rfl ?_
  refine jx_iload_n dX9_refuse_1 rfl ?_
  refine jx_putI dX9_refuse_2 flX9_28 rfl rfl (fun r h => by cases h; rfl) ?_
  refine jx_aload_n dX9_refuse_5 rfl ?_
  refine jx_aload_n dX9_refuse_6 rfl ?_
  refine jx_getIE dX9_refuse_7 flX9_37 rfl rfl ((upI_j (by decide)).trans hx.2.1.2.1) ?_
  refine jx_putI dX9_refuse_10 flX9_31 rfl rfl (fun r h => by cases h; rfl) ?_
  refine jx_iconst (v := 0) dX9_refuse_13 (by decide) ?_
  refine jx_zret dX9_refuse_14 rfl ?_ ?_
  · first | exact Or.inl rfl | exact Or.inr rfl | exact jb_or _
  refine ⟨_, rfl, _, rfl, eqR_u (eqR_u (eqR_r I) (by decide)) (by decide), ⟨?_, ⟨?_, ?_, ?_, fun q => ⟨?_, (hx.2.1.2.2.2 q).2⟩⟩, hx.2.2.1, ?_, fun _ => upI_s⟩, rfl⟩
  · exact hx.1.r (eqR_u (eqR_u (eqR_r I) (by decide)) (by decide))
  · exact (upI_j (by decide)).trans ((upI_j (by decide)).trans hx.2.1.1)
  · exact (upI_j (by decide)).trans ((upI_j (by decide)).trans hx.2.1.2.1)
  · exact (upI_j (by decide)).trans ((upI_j (by decide)).trans hx.2.1.2.2.1)
  · exact (upI_j (by decide)).trans ((upI_j (by decide)).trans (hx.2.1.2.2.2 q).1)
  · exact (upI_j (by decide)).trans upI_s
set_option maxHeartbeats 1000000 in
set_option maxRecDepth 20000 in
theorem tX9_isNumber (hW : jWok w l) (hR : RS R) {sz b bp : Nat} {tp : Nat → Nat} (hx : C3 I sz tp (b, 0, bp)) {lo hi : Nat} (hlo : lo ≤ 9999) (hhi : hi ≤ 9999) : jRi w l mX9_isNumber 2 [.ref 1005, .int (nI lo), .int (nI hi)] (n, shE, I, L, R) (fun r t => ∃ J, t = (n, shE, J, L, R) ∧ eqR I J ∧ C3 J sz tp (nuX tp sz lo hi (b, 0, bp)) ∧ r = jb (decide (numC tp sz b lo hi = 0))) := by
  refine jRi_of hW (by decide) rfl (Nat.le_of_ble_eq_true rfl) ?_
  have hkl := kdC_lt hx.1 b
  obtain ⟨ke, kw, kn⟩ := kdC_s (tp := tp) (sz := sz) (b := b)
  obtain ⟨te1, te2, te3⟩ := tEnd_7 hx
  refine jx_aload_n dX9_isNumber_0 rfl ?_
  refine jx_getIE dX9_isNumber_1 flX9_40 rfl rfl (hx.2.1.2.2.1) ?_
  refine jx_iconst (v := 3) dX9_isNumber_4 (by decide) ?_
  refine jx_icmpN_eq (a := (kdC tp sz b)) (b := 3) 14 dX9_isNumber_5 (by decide) (by omega) (by omega) (fun h5 => ?_) (fun h5 => ?_)
  · have hc := numC_v (lo := lo) (kn.mp h5) hhi
    have hvl : vlC tp b (tEnd tp sz b - b) ≤ 10000 := vlC_lt (hx.2.1.2.2.2 (kn.mp h5)).2
    refine jx_aload_n dX9_isNumber_14 rfl ?_
    refine jx_getIE dX9_isNumber_15 flX9_43 rfl rfl ((hx.2.1.2.2.2 (kn.mp h5)).1) ?_
    refine jx_iload_n dX9_isNumber_18 rfl ?_
    refine jx_icmpN_lt (a := (vlC tp b (tEnd tp sz b - b))) (b := lo) 30 dX9_isNumber_19 (by decide) (by omega) (by omega) (fun h19 => ?_) (fun h19 => ?_)
    · refine jx_aload_n dX9_isNumber_30 rfl ?_
      refine jx_iconst (v := 2) dX9_isNumber_31 (by decide) ?_
      refine jx_VRi (as := [.int _]) dX9_isNumber_32 mlX9_59 okX9_refuse viX9_refuse rfl rfl rfl rfl rfl (by decide) (Nat.le_of_ble_eq_true rfl) (tX9_refuse (k := 2) hW hR hx (by decide)) (fun x32 t32 hq32 => ?_)
      obtain ⟨J1, rfl, f1, g1, rfl⟩ := hq32
      refine jx_ifB_eq 42 dX9_isNumber_35 (by decide) (fun h35 => ?_) (fun h35 => by cases h35)
      refine jx_iconst (v := 0) dX9_isNumber_42 (by decide) ?_
      refine jx_zret dX9_isNumber_43 rfl ?_ ?_
      · first | exact Or.inl rfl | exact Or.inr rfl | exact jb_or _
      rw [if_pos (by omega)] at hc
      refine ⟨_, rfl, J1, rfl, f1, ?_, by rw [hc]; rfl⟩
      unfold nuX
      rw [hc]
      exact g1
    · refine jx_aload_n dX9_isNumber_22 rfl ?_
      refine jx_getIE dX9_isNumber_23 flX9_43 rfl rfl ((hx.2.1.2.2.2 (kn.mp h5)).1) ?_
      refine jx_iload_n dX9_isNumber_26 rfl ?_
      refine jx_icmpN_le (a := (vlC tp b (tEnd tp sz b - b))) (b := hi) 38 dX9_isNumber_27 (by decide) (by omega) (by omega) (fun h27 => ?_) (fun h27 => ?_)
      · refine jx_iconst (v := 1) dX9_isNumber_38 (by decide) ?_
        refine jx_goto 43 dX9_isNumber_39 (by decide) ?_
        refine jx_zret dX9_isNumber_43 rfl ?_ ?_
        · first | exact Or.inl rfl | exact Or.inr rfl | exact jb_or _
        rw [if_neg (by omega)] at hc
        refine ⟨_, rfl, I, rfl, eqR_r I, ?_, by rw [hc]; rfl⟩
        unfold nuX
        rw [hc]
        exact hx
      · refine jx_aload_n dX9_isNumber_30 rfl ?_
        refine jx_iconst (v := 2) dX9_isNumber_31 (by decide) ?_
        refine jx_VRi (as := [.int _]) dX9_isNumber_32 mlX9_59 okX9_refuse viX9_refuse rfl rfl rfl rfl rfl (by decide) (Nat.le_of_ble_eq_true rfl) (tX9_refuse (k := 2) hW hR hx (by decide)) (fun x32 t32 hq32 => ?_)
        obtain ⟨J1, rfl, f1, g1, rfl⟩ := hq32
        refine jx_ifB_eq 42 dX9_isNumber_35 (by decide) (fun h35 => ?_) (fun h35 => by cases h35)
        refine jx_iconst (v := 0) dX9_isNumber_42 (by decide) ?_
        refine jx_zret dX9_isNumber_43 rfl ?_ ?_
        · first | exact Or.inl rfl | exact Or.inr rfl | exact jb_or _
        rw [if_pos (by omega)] at hc
        refine ⟨_, rfl, J1, rfl, f1, ?_, by rw [hc]; rfl⟩
        unfold nuX
        rw [hc]
        exact g1
  · have hc : numC tp sz b lo hi = 1 := numC_m (fun q => h5 (kn.mpr q))
    refine jx_aload_n dX9_isNumber_8 rfl ?_
    refine jx_iconst (v := 1) dX9_isNumber_9 (by decide) ?_
    refine jx_VRi (as := [.int _]) dX9_isNumber_10 mlX9_59 okX9_refuse viX9_refuse rfl rfl rfl rfl rfl (by decide) (Nat.le_of_ble_eq_true rfl) (tX9_refuse (k := 1) hW hR hx (by decide)) (fun x10 t10 hq10 => ?_)
    obtain ⟨J1, rfl, f1, g1, rfl⟩ := hq10
    refine jx_zret dX9_isNumber_13 rfl ?_ ?_
    · first | exact Or.inl rfl | exact Or.inr rfl | exact jb_or _
    refine ⟨_, rfl, J1, rfl, f1, ?_, by rw [hc]; rfl⟩
    unfold nuX
    rw [hc]
    exact g1
set_option maxHeartbeats 1000000 in
set_option maxRecDepth 20000 in
theorem tX9_takeSign (hW : jWok w l) (hR : RS R) {sz b bp : Nat} {tp : Nat → Nat} (hx : C3 I sz tp (b, 0, bp)) {c : Nat} (hc4 : 40 ≤ c) (hc : c < 256) : jRi w l mX9_takeSign 3 [.ref 1005, .int (nI c)] (n, shE, I, L, R) (fun r t => ∃ J, t = (n, shE, J, L, R) ∧ eqR I J ∧ C3 J sz tp (pMk tp sz c (b, 0, bp)) ∧ r = jb (decide ((pMk tp sz c (b, 0, bp)).2.1 = 0))) := by
  refine jRi_of hW (by decide) rfl (Nat.le_of_ble_eq_true rfl) ?_
  have hkl := kdC_lt hx.1 b
  obtain ⟨ke, kw, kn⟩ := kdC_s (tp := tp) (sz := sz) (b := b)
  obtain ⟨te1, te2, te3⟩ := tEnd_7 hx
  have hm := kdC_mk (tp := tp) (sz := sz) (b := b) hc4
  refine jx_aload_n dX9_takeSign_0 rfl ?_
  refine jx_getIE dX9_takeSign_1 flX9_40 rfl rfl (hx.2.1.2.2.1) ?_
  refine jx_iload_n dX9_takeSign_4 rfl ?_
  refine jx_icmpN_eq (a := (kdC tp sz b)) (b := c) 14 dX9_takeSign_5 (by decide) (by omega) (by omega) (fun h5 => ?_) (fun h5 => ?_)
  · have hp : pMk tp sz c (b, 0, bp) = (nxt tp sz b, 0, bp) := by unfold pMk; rw [if_pos rfl, if_pos (hm.mp h5)]
    refine jx_aload_n dX9_takeSign_14 rfl ?_
    refine jx_VRv (as := []) dX9_takeSign_15 mlX9_34 okX9_advance viX9_advance rfl rfl rfl rfl rfl (by decide) (Nat.le_of_ble_eq_true rfl) (tX9_advance hW hR hx.1 hx.2.1.1 (tEnd_7 hx).2.2) (fun t15 hq15 => ?_)
    obtain ⟨J1, rfl, fJ1, cJ1⟩ := hq15
    have gJ1 := C3_adv hx fJ1 cJ1
    replace fJ1 := eqV_R fJ1
    refine jx_iconst (v := 1) dX9_takeSign_18 (by decide) ?_
    refine jx_zret dX9_takeSign_19 rfl ?_ ?_
    · first | exact Or.inl rfl | exact Or.inr rfl | exact jb_or _
    refine ⟨_, rfl, J1, rfl, fJ1, ?_, by rw [hp]; rfl⟩
    rw [hp]; exact gJ1
  · have hp : pMk tp sz c (b, 0, bp) = (b, 1, b) := by unfold pMk; rw [if_pos rfl, if_neg (fun q => h5 (hm.mpr q))]
    refine jx_aload_n dX9_takeSign_8 rfl ?_
    refine jx_iconst (v := 1) dX9_takeSign_9 (by decide) ?_
    refine jx_VRi (as := [.int _]) dX9_takeSign_10 mlX9_59 okX9_refuse viX9_refuse rfl rfl rfl rfl rfl (by decide) (Nat.le_of_ble_eq_true rfl) (tX9_refuse (k := 1) hW hR hx (by decide)) (fun x10 t10 hq10 => ?_)
    obtain ⟨J1, rfl, f1, g1, rfl⟩ := hq10
    refine jx_zret dX9_takeSign_13 rfl ?_ ?_
    · first | exact Or.inl rfl | exact Or.inr rfl | exact jb_or _
    refine ⟨_, rfl, J1, rfl, f1, ?_, by rw [hp]; rfl⟩
    rw [hp]; exact g1
set_option maxHeartbeats 1000000 in
set_option maxRecDepth 20000 in
theorem tX9_isWord (hW : jWok w l) (hR : RS R) {sz b bp : Nat} {tp : Nat → Nat} (hx : C3 I sz tp (b, 0, bp)) {i : Nat} {cs : List Nat} (hw : okW i cs) : jCD w l mX9_isWord 5 [.ref 1005, .ref i] (n, shE, I, L, R) (some (.int (jb (isW tp sz b 0 cs)))) (n, shE, I, L, R) := by
  refine jCD_of hW (by decide) rfl (Nat.le_of_ble_eq_true rfl) ?_
  have hkl := kdC_lt hx.1 b
  obtain ⟨ke, kw, kn⟩ := kdC_s (tp := tp) (sz := sz) (b := b)
  obtain ⟨te1, te2, te3⟩ := tEnd_7 hx
  obtain ⟨hi, ⟨q, hq, hcs⟩, h7, hcl⟩ := hw
  have hlen : q.2.2.2.length = cs.length := by rw [hcs, List.length_map]
  have hget : ∀ k, k < cs.length → q.2.2.2.getD k 0 = nI (cs.getD k 0) ∧ cs.getD k 0 < 128 := fun k hk => by
    rw [hcs, List.getD_eq_getElem?_getD, List.getElem?_map, List.getD_eq_getElem?_getD, List.getElem?_eq_getElem hk]
    exact ⟨rfl, h7 _ (List.getElem_mem hk)⟩
  have key : tKd tp sz b = 1 → cs.length = tEnd tp sz b - b → ∀ k, k ≤ cs.length → pfW tp b cs k = true → jWP w l mX9_isWord 5 0 0 (fun r t => r = some (.int (jb (isW tp sz b 0 cs))) ∧ t = (n, shE, I, L, R)) (fun _ _ => False) 28 [(0, .ref 1005), (1, .ref i), (2, .int (nI k))] [] (n, shE, I, L, R) := by
    intro e2 e3
    have e4 : isW tp sz b 0 cs = pfW tp b cs cs.length := by unfold isW; rw [decide_eq_true e2, decide_eq_true e3]; rfl
    rw [e4]
    refine jdown _ (fun k hk ih hpk => ?_)
    refine jx_iload_n dX9_isWord_28 rfl ?_
    refine jx_aload_n dX9_isWord_29 rfl ?_
    refine jx_VOi (as := []) dX9_isWord_30 mlX9_50 okJ0_length_8abf5 viJ0_length_8abf5 rfl hq (by omega) rfl rfl (by decide) (Nat.le_of_ble_eq_true rfl) (tJ0_length hW hq hi) ?_
    rw [hlen]
    refine jx_icmpN_ge (a := k) (b := cs.length) 77 dX9_isWord_33 (by decide) (by omega) (by omega) (fun h33 => ?_) (fun h33 => ?_)
    · refine jx_iconst (v := 1) dX9_isWord_77 (by decide) ?_
      refine jx_zret dX9_isWord_78 rfl ?_ ?_
      · first | exact Or.inl rfl | exact Or.inr rfl | exact jb_or _
      refine ⟨?_, rfl⟩
      rw [show cs.length = k by omega, hpk]
      rfl
    · have h33 : k < cs.length := by omega
      have c7 := (hget k h33).2
      have htb := (hx.1.2.2 (b + k) (by omega)).2
      refine jx_aload_n dX9_isWord_36 rfl ?_
      refine jx_getIE dX9_isWord_37 flX9_37 rfl rfl (hx.2.1.2.1) ?_
      refine jx_iload_n dX9_isWord_40 rfl ?_
      refine jx_iaddE (z := nI (b + k)) dX9_isWord_41 (nI_add b k) ?_
      refine jx_aload_n dX9_isWord_42 rfl ?_
      refine jx_getR dX9_isWord_43 flX9_9 rfl rfl (hR _ _ _ rfl) ?_
      refine jx_alen dX9_isWord_46 rfl (by decide) (by decide) ?_
      refine jx_icmpN_ge (a := (b + k)) (b := 700) 77 dX9_isWord_47 (by decide) (by omega) (by omega) (fun h47 => ?_) (fun h47 => ?_)
      · exact absurd h47 (by omega)
      · refine jx_aload_n dX9_isWord_50 rfl ?_
        refine jx_getR dX9_isWord_51 flX9_9 rfl rfl (hR _ _ _ rfl) ?_
        refine jx_aload_n dX9_isWord_54 rfl ?_
        refine jx_getIE dX9_isWord_55 flX9_37 rfl rfl (hx.2.1.2.1) ?_
        refine jx_iload_n dX9_isWord_58 rfl ?_
        refine jx_iaddE (z := nI (b + k)) dX9_isWord_59 (nI_add b k) ?_
        refine jx_baldE (b + k) dX9_isWord_60 rfl (rfl) (by omega) (by omega) ((hx.1.2.2 (b + k) (by omega)).1) ?_
        refine jx_aload_n dX9_isWord_61 rfl ?_
        refine jx_iload_n dX9_isWord_62 rfl ?_
        refine jx_VOi (as := [.int _]) dX9_isWord_63 mlX9_55 okJ0_charAt_5068e viJ0_charAt_5068e rfl hq (by omega) rfl rfl (by decide) (Nat.le_of_ble_eq_true rfl) (tJ0_charAt hW hq hi (by rw [hlen]; exact h33) (by omega) (hget k h33).1 (hget k h33).2) ?_
        refine jx_icmp_eq 71 dX9_isWord_66 (by decide) (fun h66 => ?_) (fun h66 => ?_)
        · have h66 : cs.getD k 0 = tp (b + k) := ((sb_eq htb c7).mp h66).symm
          refine jx_iinc dX9_isWord_71 rfl (v := nI (k + 1)) (nI_1 _) (by decide) ?_
          refine jx_goto 28 dX9_isWord_74 (by decide) ?_
          exact jx_ls (by exact ⟨rfl, rfl, rfl, trivial⟩) (ih (by omega) (pfW_s hpk h66))
        · have h66 : ¬ cs.getD k 0 = tp (b + k) := fun z => h66 ((sb_eq htb c7).mpr z.symm)
          refine jx_iconst (v := 0) dX9_isWord_69 (by decide) ?_
          refine jx_zret dX9_isWord_70 rfl ?_ ?_
          · first | exact Or.inl rfl | exact Or.inr rfl | exact jb_or _
          refine ⟨?_, rfl⟩
          rw [pfW_m (pfW_n h66) (show k + 1 ≤ cs.length by omega)]
          rfl
  refine jx_aload_n dX9_isWord_0 rfl ?_
  refine jx_getIE dX9_isWord_1 flX9_40 rfl rfl (hx.2.1.2.2.1) ?_
  refine jx_iconst (v := 2) dX9_isWord_4 (by decide) ?_
  refine jx_icmpN_ne (a := (kdC tp sz b)) (b := 2) 24 dX9_isWord_5 (by decide) (by omega) (by omega) (fun h5 => ?_) (fun h5 => ?_)
  · refine jx_iconst (v := 0) dX9_isWord_24 (by decide) ?_
    refine jx_zret dX9_isWord_25 rfl ?_ ?_
    · first | exact Or.inl rfl | exact Or.inr rfl | exact jb_or _
    refine ⟨?_, rfl⟩
    unfold isW
    first | (rw [decide_eq_false (fun q => h5 (kw.mpr q))]; rfl) | (rw [decide_eq_false (show ¬ cs.length = tEnd tp sz b - b from fun q => h21 q.symm), Bool.and_false]; rfl)
  · refine jx_aload_n dX9_isWord_8 rfl ?_
    refine jx_getIE dX9_isWord_9 flX9_25 rfl rfl (hx.2.1.1) ?_
    refine jx_aload_n dX9_isWord_12 rfl ?_
    refine jx_getIE dX9_isWord_13 flX9_37 rfl rfl (hx.2.1.2.1) ?_
    refine jx_isubE (z := nI ((tEnd tp sz b) - b)) dX9_isWord_16 (pk_sub (a := (tEnd tp sz b)) (b := b) (by omega)) ?_
    refine jx_aload_n dX9_isWord_17 rfl ?_
    refine jx_VOi (as := []) dX9_isWord_18 mlX9_50 okJ0_length_8abf5 viJ0_length_8abf5 rfl hq (by omega) rfl rfl (by decide) (Nat.le_of_ble_eq_true rfl) (tJ0_length hW hq hi) ?_
    rw [hlen]
    refine jx_icmpN_eq (a := ((tEnd tp sz b) - b)) (b := cs.length) 26 dX9_isWord_21 (by decide) (by omega) (by omega) (fun h21 => ?_) (fun h21 => ?_)
    · refine jx_iconst (v := 0) dX9_isWord_26 (by decide) ?_
      refine jx_istore_n dX9_isWord_27 rfl (by decide) ?_
      exact jx_ls (by exact ⟨rfl, rfl, rfl, trivial⟩) (key (kw.mp h5) h21.symm 0 (by omega) (decide_eq_true (fun j hj => absurd hj (by omega))))
    · refine jx_iconst (v := 0) dX9_isWord_24 (by decide) ?_
      refine jx_zret dX9_isWord_25 rfl ?_ ?_
      · first | exact Or.inl rfl | exact Or.inr rfl | exact jb_or _
      refine ⟨?_, rfl⟩
      unfold isW
      first | (rw [decide_eq_false (fun q => h5 (kw.mpr q))]; rfl) | (rw [decide_eq_false (show ¬ cs.length = tEnd tp sz b - b from fun q => h21 q.symm), Bool.and_false]; rfl)
set_option maxHeartbeats 1000000 in
set_option maxRecDepth 20000 in
theorem tX9_open (hW : jWok w l) (hR : RS R) {sz : Nat} {tp : Nat → Nat} (hz : sz ≤ 700) (ht : ∀ k, k < sz → I 1001 k = sb (tp k) ∧ tp k < 256) : jRv w l mX9_open 3 [.ref 1005, .int (nI sz)] (n, shE, I, L, R) (fun t => ∃ J, t = (n, shE, J, L, R) ∧ (∀ b j, ¬ (b = 1005 ∧ 1 ≤ j ∧ j ≤ 7) → J b j = I b j) ∧ ∀ bp, C3 J sz tp (tBeg tp sz 0, 0, bp)) := by
  refine jRv_of hW (by decide) rfl (Nat.le_of_ble_eq_true rfl) ?_
  have hK : ∀ J, J 1005 1 = nI sz → (∀ k, J 1001 k = I 1001 k) → CT J sz tp := fun J h1 h2 => ⟨h1, hz, fun k hk => ⟨(h2 k).trans (ht k hk).1, (ht k hk).2⟩⟩
  refine jx_aload_n dX9_open_0 rfl ?_
  refine jx_iload_n dX9_open_1 rfl ?_
  refine jx_aload_n dX9_open_2 rfl ?_
  refine jx_getR dX9_open_3 flX9_9 rfl rfl (hR _ _ _ rfl) ?_
  refine jx_alen dX9_open_6 rfl (by decide) (by decide) ?_
  refine jx_Si (as := [.int _, .int _]) dX9_open_7 mlX9_15 okJ9_min_7cf53 stJ9_min_7cf53 rfl rfl (by decide) (Nat.le_of_ble_eq_true rfl) (tJ9_min_7cf53 hW _ _ _) ?_
  rw [show (if Int32.ofNat 700 < nI sz then Int32.ofNat 700 else nI sz) = nI sz from if_neg (fun q => by
    have := (i32_lt (x := Int32.ofNat 700) (b := sz) (by omega)).mp q
    have e7 : (Int32.ofNat 700).toInt = 700 := by decide
    omega)]
  refine jx_putI dX9_open_10 flX9_21 rfl rfl (fun r h => by cases h; rfl) ?_
  refine jx_aload_n dX9_open_13 rfl ?_
  refine jx_iconst (v := 0) dX9_open_14 (by decide) ?_
  refine jx_putI dX9_open_15 flX9_25 rfl rfl (fun r h => by cases h; rfl) ?_
  refine jx_aload_n dX9_open_18 rfl ?_
  refine jx_iconst (v := 0) dX9_open_19 (by decide) ?_
  refine jx_putI dX9_open_20 flX9_28 rfl rfl (fun r h => by cases h; rfl) ?_
  refine jx_aload_n dX9_open_23 rfl ?_
  refine jx_iconst (v := -1) dX9_open_24 (by decide) ?_
  refine jx_putI dX9_open_25 flX9_31 rfl rfl (fun r h => by cases h; rfl) ?_
  refine jx_aload_n dX9_open_28 rfl ?_
  refine jx_VRv (as := []) dX9_open_29 mlX9_34 okX9_advance viX9_advance rfl rfl rfl rfl rfl (by decide) (Nat.le_of_ble_eq_true rfl) (tX9_advance (a := 0) hW hR (hK _ (by rfl) (by intro k; rfl)) (by rfl) (Nat.zero_le _)) (fun t29 hq29 => ?_)
  
  refine jx_vret dX9_open_32 rfl ?_
  obtain ⟨J1, rfl, f1, c1⟩ := hq29
  refine ⟨rfl, J1, rfl, fun b j hb => ?_, fun bp => ⟨?_, c1, (scn_le (p := fun k => blkQ (tp k)) (sz := sz) _ 0 rfl (Nat.zero_le _)).2, ?_, fun q => absurd rfl q⟩⟩
  · rw [f1 b j (decide_eq_false (fun q => hb ⟨q.1, by omega, by omega⟩)), upI_ne (fun q => hb ⟨q.1, by omega, by omega⟩), upI_ne (fun q => hb ⟨q.1, by omega, by omega⟩), upI_ne (fun q => hb ⟨q.1, by omega, by omega⟩), upI_ne (fun q => hb ⟨q.1, by omega, by omega⟩)]
  · exact (hK _ (by rfl) (by intro k; rfl)).t f1
  · rw [f1 1005 6 (by decide)]; rfl
end CZ2
