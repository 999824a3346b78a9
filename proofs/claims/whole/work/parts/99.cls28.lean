/-! THE CLASS: numbers and cells; x = (place, fault, place of the fault) as the reference has it -/
theorem pNw_0 {tp : Nat → Nat} {sz lo hi : Nat} {x : Nat × Nat × Nat} (h0 : x.2.1 = 0) (h : (pNw tp sz lo hi x).2.1 = 0) : pNw tp sz lo hi x = x ∧ numC tp sz x.1 lo hi = 0 := by
  unfold pNw at h ⊢
  rw [if_pos h0] at h ⊢
  by_cases e : numC tp sz x.1 lo hi = 0
  · rw [if_pos e]; exact ⟨rfl, e⟩
  · rw [if_neg e] at h; exact absurd h e
theorem pNu_w {tp : Nat → Nat} {sz lo hi : Nat} {x : Nat × Nat × Nat} (h0 : x.2.1 = 0) : pNu tp sz lo hi x = if (pNw tp sz lo hi x).2.1 = 0 then stX tp sz x else pNw tp sz lo hi x := by
  unfold pNu pNw stX
  rw [if_pos h0, if_pos h0]
  by_cases e : numC tp sz x.1 lo hi = 0
  · rw [if_pos e, if_pos e, if_pos h0, h0]
  · rw [if_neg e, if_neg e, if_neg e]
theorem pNu_f {tp : Nat → Nat} {sz lo hi : Nat} {x : Nat × Nat × Nat} (h0 : x.2.1 = 0) : (pNu tp sz lo hi x).2.1 = 0 ↔ (pNw tp sz lo hi x).2.1 = 0 := by
  rw [pNu_w h0]
  by_cases e : (pNw tp sz lo hi x).2.1 = 0
  · rw [if_pos e]; exact ⟨fun _ => e, fun _ => h0⟩
  · rw [if_neg e]
theorem jCt_m {w : jWD} {l : Launch} {M : jMI} {d kc ks : Nat} {as : List Value} {σ : jHS} {Qn Qn' : Option Value → jHS → Prop} {Qx : String → jHS → Prop} (h : jCt w l M d kc ks as σ Qn Qx) (hn : ∀ v t, Qn v t → Qn' v t) : jCt w l M d kc ks as σ Qn' Qx :=
  MetFree.mono h (fun _ _ q => q) (fun _ _ _ _ _ q => q) (fun a st oc t _ q => by
    rcases q with ⟨⟨v, s', e1, e2, e3⟩, e4⟩ | q
    · exact Or.inl ⟨⟨v, s', e1, hn _ _ e2, e3⟩, e4⟩
    · exact Or.inr q)
theorem jRi_m {w : jWD} {l : Launch} {M : jMI} {d : Nat} {as : List Value} {σ : jHS} {Q Q' : Int32 → jHS → Prop} (h : jRi w l M d as σ Q) (hn : ∀ r t, Q r t → Q' r t) : jRi w l M d as σ Q' := jCt_m h (fun v t q => by obtain ⟨r, e, q⟩ := q; exact ⟨r, e, hn _ _ q⟩)
theorem jRv_m {w : jWD} {l : Launch} {M : jMI} {d : Nat} {as : List Value} {σ : jHS} {Q Q' : jHS → Prop} (h : jRv w l M d as σ Q) (hn : ∀ t, Q t → Q' t) : jRv w l M d as σ Q' := jCt_m h (fun v t q => ⟨q.1, hn _ q.2⟩)
section CZ3
variable {w : jWD} {l : Launch} {n : Nat} {I J : Nat → Nat → Int32} {L : Nat → Nat → Int64} {R : Nat → Nat → Option Nat} {sz : Nat} {tp : Nat → Nat} {x : Nat × Nat × Nat}
theorem C3.fg (h : C3 I sz tp x) (he : eqR I J) (h1 : ∀ j, J 1005 j = I 1005 j) : C3 J sz tp x := h.f h1 (fun j => he 1001 j (by unfold tkR; simp))

theorem tX9_refuse_x (hW : jWok w l) (hR : RS R) (hx : C3 I sz tp x) (h0 : x.2.1 = 0) {k : Nat} (hk : k ≠ 0) : jRi w l mX9_refuse 1 [.ref 1005, .int (nI k)] (n, shE, I, L, R) (fun r t => ∃ J, t = (n, shE, J, L, R) ∧ eqR I J ∧ C3 J sz tp (pWr k x) ∧ r = jb (false)) := by
  obtain ⟨b, z, bp⟩ := x
  change z = 0 at h0
  subst h0
  exact tX9_refuse hW hR hx hk
theorem tX9_advance_x (hW : jWok w l) (hR : RS R) (hx : C3 I sz tp x) : jRv w l mX9_advance 2 [.ref 1005] (n, shE, I, L, R) (fun t => ∃ J, t = (n, shE, J, L, R) ∧ eqV I J ∧ C3 J sz tp (stX tp sz x)) := by
  obtain ⟨b, z, bp⟩ := x
  refine jRv_m (tX9_advance hW hR hx.1 hx.2.1.1 (tEnd_7 hx).2.2) (fun t ht => ?_)
  obtain ⟨J, e, f, c⟩ := ht
  exact ⟨J, e, f, C3_adv hx f c⟩
theorem tX9_isNumber_x (hW : jWok w l) (hR : RS R) (hx : C3 I sz tp x) (h0 : x.2.1 = 0) {lo hi : Nat} (hlo : lo ≤ 9999) (hhi : hi ≤ 9999) : jRi w l mX9_isNumber 2 [.ref 1005, .int (nI lo), .int (nI hi)] (n, shE, I, L, R) (fun r t => ∃ J, t = (n, shE, J, L, R) ∧ eqR I J ∧ C3 J sz tp (pNw tp sz lo hi x) ∧ ((pNw tp sz lo hi x).2.1 = 0 → J 1005 5 = nI (vNu tp sz lo hi x)) ∧ r = jb (decide ((pNw tp sz lo hi x).2.1 = 0))) := by
  obtain ⟨b, z, bp⟩ := x
  change z = 0 at h0
  subst h0
  refine jRi_m (tX9_isNumber hW hR hx hlo hhi) (fun r t ht => ?_)
  obtain ⟨J, e, f, c, hr⟩ := ht
  have hn : pNw tp sz lo hi (b, 0, bp) = nuX tp sz lo hi (b, 0, bp) := rfl
  refine ⟨J, e, f, by rw [hn]; exact c, fun q => ?_, ?_⟩
  · obtain ⟨q1, q2⟩ := pNw_0 (x := (b, 0, bp)) rfl q
    rw [← hn, q1] at c
    rw [(c.2.1.2.2.2 (numC_t q2)).1, (numV_c q2).1]
    unfold vNu
    rw [if_pos ⟨rfl, q2⟩]
  · rw [hr]
    congr 1
    rw [hn]
    unfold nuX
    by_cases e2 : numC tp sz b lo hi = 0
    · rw [if_pos e2, decide_eq_true e2]; rfl
    · rw [if_neg e2]
theorem tX9_takeSign_x (hW : jWok w l) (hR : RS R) (hx : C3 I sz tp x) (h0 : x.2.1 = 0) {c : Nat} (hc4 : 40 ≤ c) (hc : c < 256) : jRi w l mX9_takeSign 3 [.ref 1005, .int (nI c)] (n, shE, I, L, R) (fun r t => ∃ J, t = (n, shE, J, L, R) ∧ eqR I J ∧ C3 J sz tp (pMk tp sz c x) ∧ r = jb (decide ((pMk tp sz c x).2.1 = 0))) := by
  obtain ⟨b, z, bp⟩ := x
  change z = 0 at h0
  subst h0
  exact tX9_takeSign hW hR hx hc4 hc
theorem tX9_isWord_x (hW : jWok w l) (hR : RS R) (hx : C3 I sz tp x) (h0 : x.2.1 = 0) {i : Nat} {cs : List Nat} (hw : okW i cs) : jCD w l mX9_isWord 5 [.ref 1005, .ref i] (n, shE, I, L, R) (some (.int (jb (isX tp sz x cs)))) (n, shE, I, L, R) := by
  obtain ⟨b, z, bp⟩ := x
  change z = 0 at h0
  subst h0
  exact tX9_isWord hW hR hx hw

set_option maxHeartbeats 1000000 in
set_option maxRecDepth 20000 in
theorem tX5_takeNumber (hW : jWok w l) (hR : RS R) (hx : C3 I sz tp x) (h0 : x.2.1 = 0) {lo hi : Nat} (hlo : lo ≤ 9999) (hhi : hi ≤ 9999) : jRi w l mX5_takeNumber 3 [.ref 1004, .int (nI lo), .int (nI hi)] (n, shE, I, L, R) (fun r t => ∃ J, t = (n, shE, J, L, R) ∧ eqR I J ∧ C3 J sz tp (pNu tp sz lo hi x) ∧ ((pNu tp sz lo hi x).2.1 = 0 → J 1004 4 = nI (vNu tp sz lo hi x)) ∧ r = jb (decide ((pNu tp sz lo hi x).2.1 = 0))) := by
  refine jRi_of hW (by decide) rfl (Nat.le_of_ble_eq_true rfl) ?_
  refine jx_aload_n dX5_takeNumber_0 rfl ?_
  refine jx_getR dX5_takeNumber_1 flX5_14 rfl rfl (hR _ _ _ rfl) ?_
  refine jx_iload_n dX5_takeNumber_4 rfl ?_
  refine jx_iload_n dX5_takeNumber_5 rfl ?_
  refine jx_VRi (as := [.int _, .int _]) dX5_takeNumber_6 mlX5_177 okX9_isNumber viX9_isNumber rfl rfl rfl rfl rfl (by decide) (Nat.le_of_ble_eq_true rfl) (tX9_isNumber_x (lo := lo) (hi := hi) hW hR hx h0 hlo hhi) (fun x6 t6 hq6 => ?_)
  obtain ⟨J1, rfl, fJ1, gJ1, vJ1, rfl⟩ := hq6
  refine jx_ifB_ne 14 dX5_takeNumber_9 (by decide) (fun h9 => ?_) (fun h9 => ?_)
  · have hz := of_decide_eq_true h9
    have hp : pNu tp sz lo hi x = stX tp sz x := by rw [pNu_w h0, if_pos hz]
    rw [(pNw_0 h0 hz).1] at gJ1
    refine jx_aload_n dX5_takeNumber_14 rfl ?_
    refine jx_aload_n dX5_takeNumber_15 rfl ?_
    refine jx_getR dX5_takeNumber_16 flX5_14 rfl rfl (hR _ _ _ rfl) ?_
    refine jx_getIE dX5_takeNumber_19 flX5_180 rfl rfl (vJ1 hz) ?_
    refine jx_putI dX5_takeNumber_22 flX5_87 rfl rfl (fun r h => by cases h; rfl) ?_
    have g2 := C3.f (J := upI J1 1004 4 (nI (vNu tp sz lo hi x))) gJ1 (fun _ => rfl) (fun _ => rfl)
    refine jx_aload_n dX5_takeNumber_25 rfl ?_
    refine jx_getR dX5_takeNumber_26 flX5_14 rfl rfl (hR _ _ _ rfl) ?_
    refine jx_VRv (as := []) dX5_takeNumber_29 mlX5_80 okX9_advance viX9_advance rfl rfl rfl rfl rfl (by decide) (Nat.le_of_ble_eq_true rfl) (tX9_advance_x hW hR g2) (fun t29 hq29 => ?_)
    obtain ⟨J2, rfl, fJ2, gJ2⟩ := hq29
    refine jx_iconst (v := 1) dX5_takeNumber_32 (by decide) ?_
    refine jx_zret dX5_takeNumber_33 rfl ?_ ?_
    · first | exact Or.inl rfl | exact Or.inr rfl | exact jb_or _
    rw [hp]
    exact ⟨_, rfl, J2, rfl, eqR_t (eqR_u fJ1 (by decide)) (eqV_R fJ2), gJ2, fun _ => (fJ2 1004 4 (by decide)).trans upI_s, by rw [show (stX tp sz x).2.1 = 0 from h0]; rfl⟩
  · have hz := of_decide_eq_false h9
    have hp : pNu tp sz lo hi x = pNw tp sz lo hi x := by rw [pNu_w h0, if_neg hz]
    refine jx_iconst (v := 0) dX5_takeNumber_12 (by decide) ?_
    refine jx_zret dX5_takeNumber_13 rfl ?_ ?_
    · first | exact Or.inl rfl | exact Or.inr rfl | exact jb_or _
    rw [hp]
    exact ⟨_, rfl, J1, rfl, fJ1, gJ1, fun q => absurd q hz, by rw [decide_eq_false hz]; rfl⟩
set_option maxHeartbeats 1000000 in
set_option maxRecDepth 20000 in
theorem tX5_takeSigned (hW : jWok w l) (hR : RS R) (hx : C3 I sz tp x) (h0 : x.2.1 = 0) : jRi w l mX5_takeSigned 3 [.ref 1004] (n, shE, I, L, R) (fun r t => ∃ J, t = (n, shE, J, L, R) ∧ eqR I J ∧ C3 J sz tp (pNu tp sz 0 2 (pSg1 tp sz x)) ∧ ((pNu tp sz 0 2 (pSg1 tp sz x)).2.1 = 0 → J 1004 4 = vSg tp sz 2 x) ∧ r = jb (decide ((pNu tp sz 0 2 (pSg1 tp sz x)).2.1 = 0))) := by
  refine jRi_of hW (by decide) rfl (Nat.le_of_ble_eq_true rfl) ?_
  have hkl := kdC_lt hx.1 x.1
  have hm := kdC_mk (tp := tp) (sz := sz) (b := x.1) (c := 45) (by decide)
  have hk0 : I 1005 4 = nI (kdC tp sz x.1) := hx.2.1.2.2.1
  have key : ∀ (mn : Bool) (J0 : Nat → Nat → Int32), mkQ tp sz x.1 x.2.1 45 = mn → eqR I J0 → C3 J0 sz tp (pSg1 tp sz x) → (pSg1 tp sz x).2.1 = 0 → jWP w l mX5_takeSigned 3 0 0 (fun v t => ∃ r, v = some (.int r) ∧ (fun r t => ∃ J, t = (n, shE, J, L, R) ∧ eqR I J ∧ C3 J sz tp (pNu tp sz 0 2 (pSg1 tp sz x)) ∧ ((pNu tp sz 0 2 (pSg1 tp sz x)).2.1 = 0 → J 1004 4 = vSg tp sz 2 x) ∧ r = jb (decide ((pNu tp sz 0 2 (pSg1 tp sz x)).2.1 = 0))) r t) (fun _ _ => False) 29 [(0, .ref 1004), (1, .int (jb mn))] [] (n, shE, J0, L, R) := by
    intro mn J0 hmn f0 g0 hy0
    refine jx_aload_n dX5_takeSigned_29 rfl ?_
    refine jx_getR dX5_takeSigned_30 flX5_14 rfl rfl (hR _ _ _ rfl) ?_
    refine jx_iconst (v := 0) dX5_takeSigned_33 (by decide) ?_
    refine jx_iconst (v := 2) dX5_takeSigned_34 (by decide) ?_
    refine jx_VRi (as := [.int _, .int _]) dX5_takeSigned_35 mlX5_177 okX9_isNumber viX9_isNumber rfl rfl rfl rfl rfl (by decide) (Nat.le_of_ble_eq_true rfl) (tX9_isNumber_x (lo := 0) (hi := 2) hW hR g0 hy0 (by decide) (by decide)) (fun x35 t35 hq35 => ?_)
    obtain ⟨J1, rfl, fJ1, gJ1, vJ1, rfl⟩ := hq35
    refine jx_ifB_ne 43 dX5_takeSigned_38 (by decide) (fun h38 => ?_) (fun h38 => ?_)
    · have hz := of_decide_eq_true h38
      have hp : pNu tp sz 0 2 (pSg1 tp sz x) = stX tp sz (pSg1 tp sz x) := by rw [pNu_w hy0, if_pos hz]
      rw [(pNw_0 hy0 hz).1] at gJ1
      refine jx_aload_n dX5_takeSigned_43 rfl ?_
      refine jx_iload_n dX5_takeSigned_44 rfl ?_
      refine jx_ifB_eq 59 dX5_takeSigned_45 (by decide) (fun h45 => ?_) (fun h45 => ?_)
      · refine jx_aload_n dX5_takeSigned_59 rfl ?_
        refine jx_getR dX5_takeSigned_60 flX5_14 rfl rfl (hR _ _ _ rfl) ?_
        refine jx_getIE dX5_takeSigned_63 flX5_180 rfl rfl (vJ1 hz) ?_
        refine jx_putI dX5_takeSigned_66 flX5_87 rfl rfl (fun r h => by cases h; rfl) ?_
        have g2 := fun v => C3.f (J := upI J1 1004 4 v) gJ1 (fun _ => rfl) (fun _ => rfl)
        refine jx_aload_n dX5_takeSigned_69 rfl ?_
        refine jx_getR dX5_takeSigned_70 flX5_14 rfl rfl (hR _ _ _ rfl) ?_
        refine jx_VRv (as := []) dX5_takeSigned_73 mlX5_80 okX9_advance viX9_advance rfl rfl rfl rfl rfl (by decide) (Nat.le_of_ble_eq_true rfl) (tX9_advance_x hW hR (g2 _)) (fun t73 hq73 => ?_)
        obtain ⟨J2, rfl, fJ2, gJ2⟩ := hq73
        refine jx_iconst (v := 1) dX5_takeSigned_76 (by decide) ?_
        refine jx_zret dX5_takeSigned_77 rfl ?_ ?_
        · first | exact Or.inl rfl | exact Or.inr rfl | exact jb_or _
        rw [hp]
        refine ⟨_, rfl, J2, rfl, eqR_t f0 (eqR_t (eqR_u fJ1 (by decide)) (eqV_R fJ2)), gJ2, fun _ => (fJ2 1004 4 (by decide)).trans (upI_s.trans ?_), by rw [show (stX tp sz (pSg1 tp sz x)).2.1 = 0 from hy0]; rfl⟩
        unfold vSg
        rw [hmn]
        first | rw [h45, if_neg (by decide)] | rw [h45, if_pos rfl]
      · refine jx_aload_n dX5_takeSigned_48 rfl ?_
        refine jx_getR dX5_takeSigned_49 flX5_14 rfl rfl (hR _ _ _ rfl) ?_
        refine jx_getIE dX5_takeSigned_52 flX5_180 rfl rfl (vJ1 hz) ?_
        refine jx_ineg dX5_takeSigned_55 ?_
        refine jx_goto 66 dX5_takeSigned_56 (by decide) ?_
        refine jx_putI dX5_takeSigned_66 flX5_87 rfl rfl (fun r h => by cases h; rfl) ?_
        have g2 := fun v => C3.f (J := upI J1 1004 4 v) gJ1 (fun _ => rfl) (fun _ => rfl)
        refine jx_aload_n dX5_takeSigned_69 rfl ?_
        refine jx_getR dX5_takeSigned_70 flX5_14 rfl rfl (hR _ _ _ rfl) ?_
        refine jx_VRv (as := []) dX5_takeSigned_73 mlX5_80 okX9_advance viX9_advance rfl rfl rfl rfl rfl (by decide) (Nat.le_of_ble_eq_true rfl) (tX9_advance_x hW hR (g2 _)) (fun t73 hq73 => ?_)
        obtain ⟨J2, rfl, fJ2, gJ2⟩ := hq73
        refine jx_iconst (v := 1) dX5_takeSigned_76 (by decide) ?_
        refine jx_zret dX5_takeSigned_77 rfl ?_ ?_
        · first | exact Or.inl rfl | exact Or.inr rfl | exact jb_or _
        rw [hp]
        refine ⟨_, rfl, J2, rfl, eqR_t f0 (eqR_t (eqR_u fJ1 (by decide)) (eqV_R fJ2)), gJ2, fun _ => (fJ2 1004 4 (by decide)).trans (upI_s.trans ?_), by rw [show (stX tp sz (pSg1 tp sz x)).2.1 = 0 from hy0]; rfl⟩
        unfold vSg
        rw [hmn]
        first | rw [h45, if_neg (by decide)] | rw [h45, if_pos rfl]
    · have hz := of_decide_eq_false h38
      have hp : pNu tp sz 0 2 (pSg1 tp sz x) = pNw tp sz 0 2 (pSg1 tp sz x) := by rw [pNu_w hy0, if_neg hz]
      refine jx_iconst (v := 0) dX5_takeSigned_41 (by decide) ?_
      refine jx_zret dX5_takeSigned_42 rfl ?_ ?_
      · first | exact Or.inl rfl | exact Or.inr rfl | exact jb_or _
      rw [hp]
      exact ⟨_, rfl, J1, rfl, eqR_t f0 fJ1, gJ1, fun q => absurd q hz, by rw [decide_eq_false hz]; rfl⟩
  refine jx_aload_n dX5_takeSigned_0 rfl ?_
  refine jx_getR dX5_takeSigned_1 flX5_14 rfl rfl (hR _ _ _ rfl) ?_
  refine jx_getIE dX5_takeSigned_4 flX5_59 rfl rfl (hk0) ?_
  refine jx_bipush (v := 45) dX5_takeSigned_7 (by decide) ?_
  refine jx_icmpN_ne (a := (kdC tp sz x.1)) (b := 45) 16 dX5_takeSigned_9 (by decide) (by omega) (by omega) (fun h9 => ?_) (fun h9 => ?_)
  · have hmn : mkQ tp sz x.1 x.2.1 45 = false := by rw [h0]; exact Bool.eq_false_iff.mpr (fun q => h9 (hm.mpr q))
    have hy : pSg1 tp sz x = x := by unfold pSg1; rw [if_neg (by rw [hmn]; decide)]
    refine jx_iconst (v := 0) dX5_takeSigned_16 (by decide) ?_
    refine jx_istore_n dX5_takeSigned_17 rfl (by decide) ?_
    refine jx_iload_n dX5_takeSigned_18 rfl ?_
    refine jx_ifN_eq (a := 0) 29 dX5_takeSigned_19 (by decide) (by decide) (fun h19 => ?_) (fun h19 => absurd h19 (by decide))
    exact jx_ls (by exact ⟨rfl, rfl, trivial⟩) (key false I hmn (eqR_r I) (by rw [hy]; exact hx) (by rw [hy]; exact h0))
  · have hmn : mkQ tp sz x.1 x.2.1 45 = true := by rw [h0]; exact hm.mp h9
    have hy : pSg1 tp sz x = stX tp sz x := by unfold pSg1; rw [if_pos hmn]; rfl
    refine jx_iconst (v := 1) dX5_takeSigned_12 (by decide) ?_
    refine jx_goto 17 dX5_takeSigned_13 (by decide) ?_
    refine jx_istore_n dX5_takeSigned_17 rfl (by decide) ?_
    refine jx_iload_n dX5_takeSigned_18 rfl ?_
    refine jx_ifN_eq (a := 1) 29 dX5_takeSigned_19 (by decide) (by decide) (fun h19 => absurd h19 (by decide)) (fun h19 => ?_)
    refine jx_aload_n dX5_takeSigned_22 rfl ?_
    refine jx_getR dX5_takeSigned_23 flX5_14 rfl rfl (hR _ _ _ rfl) ?_
    refine jx_VRv (as := []) dX5_takeSigned_26 mlX5_80 okX9_advance viX9_advance rfl rfl rfl rfl rfl (by decide) (Nat.le_of_ble_eq_true rfl) (tX9_advance_x hW hR hx) (fun t26 hq26 => ?_)
    obtain ⟨J1, rfl, fJ1, gJ1⟩ := hq26
    exact jx_ls (by exact ⟨rfl, rfl, trivial⟩) (key true J1 hmn (eqV_R fJ1) (by rw [hy]; exact gJ1) (by rw [hy]; exact h0))
def tcX (tp : Nat → Nat) (sz W H : Nat) (g : Nat → Bool) (x : Nat × Nat × Nat) : Nat × Nat × Nat := if (pCl tp sz W H (stX tp sz x)).2.1 ≠ 0 then pCl tp sz W H (stX tp sz x) else if g (vCl tp sz W H (stX tp sz x)) = true then pWr 4 (pCl tp sz W H (stX tp sz x)) else stX tp sz (pCl tp sz W H (stX tp sz x))
theorem tcX_0 {W H : Nat} {g : Nat → Bool} (h : (tcX tp sz W H g x).2.1 = 0) : (pCl tp sz W H (stX tp sz x)).2.1 = 0 ∧ g (vCl tp sz W H (stX tp sz x)) = false ∧ tcX tp sz W H g x = stX tp sz (pCl tp sz W H (stX tp sz x)) := by
  unfold tcX at h ⊢
  by_cases e : (pCl tp sz W H (stX tp sz x)).2.1 = 0
  · rw [if_neg (fun q => q e)] at h ⊢
    by_cases e2 : g (vCl tp sz W H (stX tp sz x)) = true
    · rw [if_pos e2] at h
      unfold pWr at h
      rw [if_pos e] at h
      cases h
    · rw [if_neg e2]; exact ⟨e, Bool.eq_false_iff.mpr e2, rfl⟩
  · rw [if_pos e] at h; exact absurd h e
set_option maxHeartbeats 1000000 in
set_option maxRecDepth 20000 in
theorem tX5_takeCell (hW : jWok w l) (hR : RS R) (hx : C3 I sz tp x) (h0 : x.2.1 = 0) {h W H : Nat} (hh : h = 1008 ∨ h = 1024) (hRt : R 1004 2 = some h) (hw : I (h + 1) 0 = nI W) (hd : I (h + 1) 1 = nI H) (hWb : 3 ≤ W ∧ W ≤ 9) (hHb : 1 ≤ H ∧ H ≤ 7) (tk : Int64) : jRi w l mX5_takeCell 3 [.ref 1004, .long tk] (n, shE, I, L, R) (fun r t => ∃ J, t = (n, shE, J, L, R) ∧ eqR I J ∧ C3 J sz tp (tcX tp sz W H (bt tk) x) ∧ ((tcX tp sz W H (bt tk) x).2.1 = 0 → J 1004 4 = nI (vCl tp sz W H (stX tp sz x))) ∧ r = jb (decide ((tcX tp sz W H (bt tk) x).2.1 = 0))) := by
  refine jRi_of hW (by decide) rfl (Nat.le_of_ble_eq_true rfl) ?_
  have h01 : (stX tp sz x).2.1 = 0 := h0
  have hc63 : vCl tp sz W H (stX tp sz x) < W * H := vCl_lt (by omega) (by omega)
  have hWH : W * H ≤ 9 * 7 := Nat.mul_le_mul hWb.2 hHb.2
  rcases hh with rfl | rfl
  all_goals
    refine jx_aload_n dX5_takeCell_0 rfl ?_
    refine jx_getR dX5_takeCell_1 flX5_14 rfl rfl (by first | exact hRt | exact hR _ _ _ rfl) ?_
    refine jx_VRv (as := []) dX5_takeCell_4 mlX5_80 okX9_advance viX9_advance rfl rfl rfl rfl rfl (by decide) (Nat.le_of_ble_eq_true rfl) (tX9_advance_x hW hR hx) (fun t4 hq4 => ?_)
    obtain ⟨J1, rfl, fJ1, gJ1⟩ := hq4
    refine jx_aload_n dX5_takeCell_7 rfl ?_
    refine jx_getR dX5_takeCell_8 flX5_14 rfl rfl (by first | exact hRt | exact hR _ _ _ rfl) ?_
    refine jx_iconst (v := 0) dX5_takeCell_11 (by decide) ?_
    refine jx_aload_n dX5_takeCell_12 rfl ?_
    refine jx_getR dX5_takeCell_13 flX5_33 rfl rfl (by first | exact hRt | exact hR _ _ _ rfl) ?_
    refine jx_getR dX5_takeCell_16 flX5_69 rfl rfl (by first | exact hRt | exact hR _ _ _ rfl) ?_
    refine jx_getIE dX5_takeCell_19 flX5_183 rfl rfl ((fJ1 _ _ (by decide)).trans hw) ?_
    refine jx_iconst (v := 1) dX5_takeCell_22 (by decide) ?_
    refine jx_isubE (z := nI (W - 1)) dX5_takeCell_23 (pk_sub (a := W) (b := 1) (by omega)) ?_
    refine jx_VRi (as := [.int _, .int _]) dX5_takeCell_24 mlX5_177 okX9_isNumber viX9_isNumber rfl rfl rfl rfl rfl (by decide) (Nat.le_of_ble_eq_true rfl) (tX9_isNumber_x (lo := 0) (hi := (W - 1)) hW hR gJ1 h01 (by omega) (by omega)) (fun x24 t24 hq24 => ?_)
    obtain ⟨J2, rfl, fJ2, gJ2, vJ2, rfl⟩ := hq24
    refine jx_ifB_ne 32 dX5_takeCell_27 (by decide) (fun h27 => ?_) (fun h27 => ?_)
    · have hz2 := of_decide_eq_true h27
      have hx2 : pNu tp sz 0 (W - 1) (stX tp sz x) = stX tp sz (stX tp sz x) := by rw [pNu_w h01, if_pos hz2]
      have h02 : (pNu tp sz 0 (W - 1) (stX tp sz x)).2.1 = 0 := by rw [hx2]; exact h0
      rw [(pNw_0 h01 hz2).1] at gJ2
      refine jx_aload_n dX5_takeCell_32 rfl ?_
      refine jx_getR dX5_takeCell_33 flX5_14 rfl rfl (by first | exact hRt | exact hR _ _ _ rfl) ?_
      refine jx_getIE dX5_takeCell_36 flX5_180 rfl rfl (vJ2 hz2) ?_
      refine jx_istore_n dX5_takeCell_39 rfl (by decide) ?_
      refine jx_aload_n dX5_takeCell_40 rfl ?_
      refine jx_getR dX5_takeCell_41 flX5_14 rfl rfl (by first | exact hRt | exact hR _ _ _ rfl) ?_
      refine jx_VRv (as := []) dX5_takeCell_44 mlX5_80 okX9_advance viX9_advance rfl rfl rfl rfl rfl (by decide) (Nat.le_of_ble_eq_true rfl) (tX9_advance_x hW hR gJ2) (fun t44 hq44 => ?_)
      obtain ⟨J3, rfl, fJ3, gJ3⟩ := hq44
      rw [← hx2] at gJ3
      refine jx_aload_n dX5_takeCell_47 rfl ?_
      refine jx_getR dX5_takeCell_48 flX5_14 rfl rfl (by first | exact hRt | exact hR _ _ _ rfl) ?_
      refine jx_iconst (v := 0) dX5_takeCell_51 (by decide) ?_
      refine jx_aload_n dX5_takeCell_52 rfl ?_
      refine jx_getR dX5_takeCell_53 flX5_33 rfl rfl (by first | exact hRt | exact hR _ _ _ rfl) ?_
      refine jx_getR dX5_takeCell_56 flX5_69 rfl rfl (by first | exact hRt | exact hR _ _ _ rfl) ?_
      refine jx_getIE dX5_takeCell_59 flX5_186 rfl rfl ((fJ3 _ _ (by decide)).trans ((fJ2 _ _ (by decide)).trans ((fJ1 _ _ (by decide)).trans hd))) ?_
      refine jx_iconst (v := 1) dX5_takeCell_62 (by decide) ?_
      refine jx_isubE (z := nI (H - 1)) dX5_takeCell_63 (pk_sub (a := H) (b := 1) (by omega)) ?_
      refine jx_VRi (as := [.int _, .int _]) dX5_takeCell_64 mlX5_177 okX9_isNumber viX9_isNumber rfl rfl rfl rfl rfl (by decide) (Nat.le_of_ble_eq_true rfl) (tX9_isNumber_x (lo := 0) (hi := (H - 1)) hW hR gJ3 h02 (by omega) (by omega)) (fun x64 t64 hq64 => ?_)
      obtain ⟨J4, rfl, fJ4, gJ4, vJ4, rfl⟩ := hq64
      refine jx_ifB_ne 72 dX5_takeCell_67 (by decide) (fun h67 => ?_) (fun h67 => ?_)
      · have hz4 := of_decide_eq_true h67
        have hb1 : vNu tp sz 0 (W - 1) (stX tp sz x) ≤ W - 1 := vNu_le
        have hb2 : vNu tp sz 0 (H - 1) (pNu tp sz 0 (W - 1) (stX tp sz x)) ≤ H - 1 := vNu_le
        refine jx_aload_n dX5_takeCell_72 rfl ?_
        refine jx_getR dX5_takeCell_73 flX5_33 rfl rfl (by first | exact hRt | exact hR _ _ _ rfl) ?_
        refine jx_getR dX5_takeCell_76 flX5_69 rfl rfl (by first | exact hRt | exact hR _ _ _ rfl) ?_
        refine jx_getIE dX5_takeCell_79 flX5_183 rfl rfl ((fJ4 _ _ (by decide)).trans ((fJ3 _ _ (by decide)).trans ((fJ2 _ _ (by decide)).trans ((fJ1 _ _ (by decide)).trans hw)))) ?_
        refine jx_aload_n dX5_takeCell_82 rfl ?_
        refine jx_getR dX5_takeCell_83 flX5_14 rfl rfl (by first | exact hRt | exact hR _ _ _ rfl) ?_
        refine jx_getIE dX5_takeCell_86 flX5_180 rfl rfl (vJ4 hz4) ?_
        refine jx_imulE (z := nI (W * (vNu tp sz 0 (H - 1) (pNu tp sz 0 (W - 1) (stX tp sz x))))) dX5_takeCell_89 (pk_mul W (vNu tp sz 0 (H - 1) (pNu tp sz 0 (W - 1) (stX tp sz x)))) ?_
        refine jx_iload_n dX5_takeCell_90 rfl ?_
        refine jx_iaddE (z := nI (vCl tp sz W H (stX tp sz x))) dX5_takeCell_91 (nI_add _ _) ?_
        refine jx_istore dX5_takeCell_92 (by decide) ?_
        refine jx_lload_n dX5_takeCell_94 rfl ?_
        refine jx_iload dX5_takeCell_95 rfl ?_
        refine jx_Ni (as := [.long _, .int _]) dX5_takeCell_97 mlX5_189 okX10_has stX10_has rfl (by decide) (Nat.le_of_ble_eq_true rfl) (tX10_has hW (by omega) _) ?_
        refine jx_ifB_eq 112 dX5_takeCell_100 (by decide) (fun h100 => ?_) (fun h100 => ?_)
        · have ht : tcX tp sz W H (bt tk) x = stX tp sz (pNw tp sz 0 (H - 1) (pNu tp sz 0 (W - 1) (stX tp sz x))) := by
            unfold tcX
            rw [if_neg (fun q => q hz4), if_neg (by rw [h100]; decide)]; rfl
          refine jx_aload_n dX5_takeCell_112 rfl ?_
          refine jx_getR dX5_takeCell_113 flX5_14 rfl rfl (by first | exact hRt | exact hR _ _ _ rfl) ?_
          refine jx_VRv (as := []) dX5_takeCell_116 mlX5_80 okX9_advance viX9_advance rfl rfl rfl rfl rfl (by decide) (Nat.le_of_ble_eq_true rfl) (tX9_advance_x hW hR gJ4) (fun t116 hq116 => ?_)
          obtain ⟨J5, rfl, fJ5, gJ5⟩ := hq116
          refine jx_aload_n dX5_takeCell_119 rfl ?_
          refine jx_iload dX5_takeCell_120 rfl ?_
          refine jx_putI dX5_takeCell_122 flX5_87 rfl rfl (fun r h => by cases h; rfl) ?_
          refine jx_iconst (v := 1) dX5_takeCell_125 (by decide) ?_
          refine jx_zret dX5_takeCell_126 rfl ?_ ?_
          · first | exact Or.inl rfl | exact Or.inr rfl | exact jb_or _
          rw [ht]
          exact ⟨_, rfl, _, rfl, eqR_u (eqR_t (eqV_R fJ1) (eqR_t fJ2 (eqR_t (eqV_R fJ3) (eqR_t fJ4 (eqV_R fJ5))))) (by decide), C3.f gJ5 (fun _ => rfl) (fun _ => rfl), fun _ => upI_s, by rw [show (stX tp sz (pNw tp sz 0 (H - 1) (pNu tp sz 0 (W - 1) (stX tp sz x)))).2.1 = 0 from hz4]; rfl⟩
        · have ht : tcX tp sz W H (bt tk) x = pWr 4 (pNw tp sz 0 (H - 1) (pNu tp sz 0 (W - 1) (stX tp sz x))) := by
            unfold tcX
            rw [if_neg (fun q => q hz4), if_pos h100]; rfl
          refine jx_aload_n dX5_takeCell_103 rfl ?_
          refine jx_getR dX5_takeCell_104 flX5_14 rfl rfl (by first | exact hRt | exact hR _ _ _ rfl) ?_
          refine jx_iconst (v := 4) dX5_takeCell_107 (by decide) ?_
          refine jx_VRi (as := [.int _]) dX5_takeCell_108 mlX5_141 okX9_refuse viX9_refuse rfl rfl rfl rfl rfl (by decide) (Nat.le_of_ble_eq_true rfl) (tX9_refuse_x (k := 4) hW hR gJ4 hz4 (by decide)) (fun x108 t108 hq108 => ?_)
          obtain ⟨J5, rfl, fJ5, gJ5, rfl⟩ := hq108
          refine jx_zret dX5_takeCell_111 rfl ?_ ?_
          · first | exact Or.inl rfl | exact Or.inr rfl | exact jb_or _
          rw [ht]
          have h4 : (pWr 4 (pNw tp sz 0 (H - 1) (pNu tp sz 0 (W - 1) (stX tp sz x)))).2.1 = 4 := by unfold pWr; rw [if_pos hz4]
          exact ⟨_, rfl, J5, rfl, eqR_t (eqV_R fJ1) (eqR_t fJ2 (eqR_t (eqV_R fJ3) (eqR_t fJ4 fJ5))), gJ5, fun q => absurd q (by rw [h4]; decide), by rw [h4]; rfl⟩
      · have hz4 := of_decide_eq_false h67
        have ht : tcX tp sz W H (bt tk) x = pNw tp sz 0 (H - 1) (pNu tp sz 0 (W - 1) (stX tp sz x)) := by
          unfold tcX
          rw [show pCl tp sz W H (stX tp sz x) = pNw tp sz 0 (H - 1) (pNu tp sz 0 (W - 1) (stX tp sz x)) from rfl, if_pos hz4]
        refine jx_iconst (v := 0) dX5_takeCell_70 (by decide) ?_
        refine jx_zret dX5_takeCell_71 rfl ?_ ?_
        · first | exact Or.inl rfl | exact Or.inr rfl | exact jb_or _
        rw [ht]
        exact ⟨_, rfl, J4, rfl, eqR_t (eqV_R fJ1) (eqR_t fJ2 (eqR_t (eqV_R fJ3) fJ4)), gJ4, fun q => absurd q hz4, by rw [decide_eq_false hz4]; rfl⟩
    · have hz2 := of_decide_eq_false h27
      have hx2 : pNu tp sz 0 (W - 1) (stX tp sz x) = pNw tp sz 0 (W - 1) (stX tp sz x) := by rw [pNu_w h01, if_neg hz2]
      have hp : pCl tp sz W H (stX tp sz x) = pNw tp sz 0 (W - 1) (stX tp sz x) := by
        unfold pCl
        rw [hx2, pNw_b hz2]
      have ht : tcX tp sz W H (bt tk) x = pNw tp sz 0 (W - 1) (stX tp sz x) := by
        unfold tcX
        rw [hp, if_pos hz2]
      refine jx_iconst (v := 0) dX5_takeCell_30 (by decide) ?_
      refine jx_zret dX5_takeCell_31 rfl ?_ ?_
      · first | exact Or.inl rfl | exact Or.inr rfl | exact jb_or _
      rw [ht]
      exact ⟨_, rfl, J2, rfl, eqR_t (eqV_R fJ1) fJ2, gJ2, fun q => absurd q hz2, by rw [decide_eq_false hz2]; rfl⟩
end CZ3
