/-! THE CLASS: the first line, and all lines -/
section CZ20
variable {w : jWD} {l : Launch} {n : Nat} {I J : Nat → Nat → Int32} {L M : Nat → Nat → Int64} {R : Nat → Nat → Option Nat} {sz : Nat} {tp : Nat → Nat} {x : Nat × Nat × Nat} {T : Nat → Nat → Int32} {h W H np len s : Nat}
theorem CTl_cl (hh : h = 1008 ∨ h = 1024) (hC : CTl I L h T 6 4) (f1 : ∀ b j, b ≠ h + 1 → b ≠ h + 2 → J b j = I b j) (c1 : Clr J M h W H) (s1 : M (h + 1) 11 = bs (fun c => decide (c < W * H))) (s2 : M (h + 1) 12 = bs (fun c => decide (c < W * H ∧ c % W = 0))) (s3 : M (h + 1) 13 = bs (fun c => decide (c < W * H ∧ c % W = W - 1))) (hT : bgT T) (hWH : W * H ≤ 63) : CTl J M h (upI (upI T 1072 0 (nI W)) 1072 1 (nI H)) W H := by
  obtain ⟨e0, e1, e2, e3⟩ := bgT_sands hT (nI W) (nI H)
  obtain ⟨t1, t2⟩ := hT
  obtain ⟨-, -, -, -, -, -, -, r, p, s, q⟩ := hC
  have z4 : T 1072 4 = 0 := t1 4 (by decide)
  have z5 : T 1072 5 = 0 := t1 5 (by decide)
  have z6 : T 1072 6 = 0 := t1 6 (by decide)
  generalize hT' : upI (upI T 1072 0 (nI W)) 1072 1 (nI H) = T' at e0 e1 e2 e3
  have g : ∀ c, c < W * H → T' 1073 c = 4 ∧ T' 1074 c = 0 ∧ T' 1084 c = 0 := fun c hc => by rw [e3 1073 c (by decide), e3 1074 c (by decide), e3 1084 c (by decide)]; exact t2 c (by omega)
  have b16 : T' 1072 16 = T 1072 16 := e2 16 (by decide)
  have b10 : T' 1072 10 = T 1072 10 := e2 10 (by decide)
  refine ⟨c1.1, fun c hc => ?_, ?_, ⟨?_, ?_⟩, ⟨?_, fun k hk => ?_, ?_⟩, ⟨?_, ?_⟩, ⟨s1, s2, s3⟩, ⟨?_, fun k hk => ?_⟩, ⟨?_, fun p' k hp hk => ?_⟩, ⟨?_, ?_, ?_, ?_⟩, fun f hf => ?_⟩
  · rw [c1.2.2.1 c (by omega), (g c hc).1]
  · rw [c1.2.2.2.1]; exact (bs_f (fun c _ => decide_eq_false (fun q => q.2 (g c q.1).2.2))).symm
  · rw [c1.2.2.2.2.1]; exact (bs_f (fun c _ => decide_eq_false (fun q => by have := q.2; rw [(g c q.1).2.1] at this; exact absurd this (by decide)))).symm
  · rw [c1.2.2.2.2.2.1]; exact (bs_f (fun c _ => decide_eq_false (fun q => by have := q.2; rw [(g c q.1).2.1] at this; exact absurd this (by decide)))).symm
  · rw [e2 4 (by decide), z4]; exact c1.2.1.1
  · rw [e2 4 (by decide), z4] at hk; exact absurd hk (Nat.not_lt_zero k)
  · rw [c1.2.2.2.2.2.2, e2 4 (by decide), z4]; exact (bs_f (fun c _ => by show (_ && anyN _ 0) = false; exact Bool.and_false _)).symm
  · rw [e2 5 (by decide), z5]; exact c1.2.1.2.1
  · rw [e2 6 (by decide), z6]; exact c1.2.1.2.2
  · rw [f1 _ _ (by omega) (by omega), b16]; exact r.1
  · rw [b16] at hk; rw [f1 _ _ (by omega) (by omega), e3 1082 k (by decide)]; exact r.2 k hk
  · rw [f1 _ _ (by omega) (by omega), b10]; exact p.1
  · rw [b10] at hp; rw [f1 _ _ (by omega) (by omega), e3 (1076 + k) p' (by omega)]; exact p.2 p' k hp hk
  · rw [f1 _ _ (by omega) (by omega), e2 11 (by decide)]; exact s.1
  · rw [f1 _ _ (by omega) (by omega), e2 7 (by decide)]; exact s.2.1
  · rw [f1 _ _ (by omega) (by omega), e2 8 (by decide)]; exact s.2.2.1
  · rw [f1 _ _ (by omega) (by omega), e2 9 (by decide)]; exact s.2.2.2
  · rw [f1 _ _ (by omega) (by omega), e2 (12 + f) (by omega)]; exact q f hf
theorem atF_t {lim : Nat} {g : Nat → Int32} {k : Nat} {G : Nat → Nat} (hk : k < 10) (hl : lim ≤ 63) (hg : ∀ c, c < lim → g c = nI (G c) ∧ G c ≤ 9) : atF g lim 0 k = bs (fun c => decide (c < lim ∧ k ≤ G c)) := by
  unfold atF
  refine bs_c (fun c _ => ?_)
  by_cases q : c < lim
  · obtain ⟨a, b⟩ := hg c q
    have : (nI k ≤ g c) ↔ k ≤ G c := by
      rw [a, Int32.le_iff_toInt_le, nI_toInt (by omega), nI_toInt (by omega)]; omega
    simp [q, this]
  · simp [q]
/-- what is told and settled is an island -/
theorem CIs_of {lim : Nat} {M' : Nat → Nat → Int64} (hh : h = 1008 ∨ h = 1024) (hC : CTl J M h T W H) (hB : BT T W H np len) (hM : ∀ b j, b ≠ h + 4 → M' b j = M b j) (l1 : lim ≤ 63) (l2 : lim = 63 ∨ ¬ nI lim < J (h + 1) 0 * J (h + 1) 1) (l3 : ∀ c, c < lim → nI c < J (h + 1) 0 * J (h + 1) 1) (l4 : ∀ k, k < 10 → M' (h + 4) k = atF (J (h + 2)) lim 0 k) : CIs J M' h T W H np len := by
  obtain ⟨d1, d2, hWb, hHb, hWH, d10, hnp⟩ := BT_d hB
  have hI := hB.1
  obtain ⟨e1, e2, e3, e4, e5, e6, e7, e8, e9, e10, e11⟩ := hC
  rw [e1.1, e1.2, pk_mul] at l2 l3
  have n1 : ∀ a b : Nat, a < 2 ^ 31 → b < 2 ^ 31 → (nI a < nI b ↔ a < b) := fun a b ha hb => by
    rw [Int32.lt_iff_toInt_lt, nI_toInt ha, nI_toInt hb]; omega
  have hlim : lim = W * H := by
    have a1 : W * H ≤ lim := by
      rcases l2 with z | z
      · omega
      · rw [n1 _ _ (by omega) (by omega)] at z; omega
    have a2 : lim ≤ W * H := by
      by_cases z : lim = 0
      · omega
      · have := l3 (lim - 1) (by omega)
        rw [n1 _ _ (by omega) (by omega)] at this; omega
    omega
  subst hlim
  have h16 : cN (T 1072 16) = len := by rw [hI.2.2.2.2.2.2.1.1]; exact cN_nI (by have := hI.2.2.2.2.2.2.1.2.1; omega)
  have hm : ∀ j, M' (h + 1) j = M (h + 1) j := fun j => hM _ _ (by omega)
  refine ⟨⟨e1, e2, ⟨e5.1, e5.2.1⟩, e6, ⟨by rw [hm]; exact e4.1, by rw [hm]; exact e4.2⟩, ⟨by rw [hm]; exact e7.1, by rw [hm]; exact e7.2.1, by rw [hm]; exact e7.2.2⟩, fun k hk => ?_⟩, ⟨e8.1.trans hI.2.2.2.2.2.2.1.1, fun k hk => e8.2 k (by omega)⟩, ⟨e9.1.trans hI.2.2.2.2.1.1, fun p k hp hk => e9.2 p k (by omega) hk⟩, e10, e11⟩
  show M' (h + 4) k = _
  rw [l4 k hk]
  exact atF_t (G := fun c => cN (T 1073 c)) hk hWH (fun c hc => ⟨(e2 c hc).trans (hI.2.1 c hc).1.1, (hI.2.1 c hc).1.2⟩)

set_option maxHeartbeats 1000000 in
set_option maxRecDepth 20000 in
theorem tX5_readSands (hW : jWok w l) (hR : RS R) (hx : C3 I sz tp x) (h0 : x.2.1 = 0) (hh : h = 1008 ∨ h = 1024) (hRt : R 1004 2 = some h) (hC : CTl I L h T 6 4) (hT : bgT T) : jRi w l mX5_readSands 4 [.ref 1004] (n, shE, I, L, R) (fun r t => ∃ J M, t = (n, shE, J, M, R) ∧ eqG h I J ∧ eqGL h L M ∧ C3 J sz tp (pMk tp sz 59 (pNu tp sz 1 7 (pNu tp sz 3 9 (stX tp sz x)))) ∧ ((pMk tp sz 59 (pNu tp sz 1 7 (pNu tp sz 3 9 (stX tp sz x)))).2.1 = 0 → (3 ≤ vNu tp sz 3 9 (stX tp sz x) ∧ vNu tp sz 3 9 (stX tp sz x) ≤ 9 ∧ 1 ≤ vNu tp sz 1 7 (pNu tp sz 3 9 (stX tp sz x)) ∧ vNu tp sz 1 7 (pNu tp sz 3 9 (stX tp sz x)) ≤ 7) ∧ CTl J M h (upI (upI T 1072 0 (nI (vNu tp sz 3 9 (stX tp sz x)))) 1072 1 (nI (vNu tp sz 1 7 (pNu tp sz 3 9 (stX tp sz x))))) (vNu tp sz 3 9 (stX tp sz x)) (vNu tp sz 1 7 (pNu tp sz 3 9 (stX tp sz x))) ∧ J 1004 3 = I 1004 3) ∧ r = jb (decide ((pMk tp sz 59 (pNu tp sz 1 7 (pNu tp sz 3 9 (stX tp sz x)))).2.1 = 0))) := by
  refine jRi_of hW (by decide) rfl (Nat.le_of_ble_eq_true rfl) ?_
  have h01 : (stX tp sz x).2.1 = 0 := h0
  have hb1 : vNu tp sz 3 9 (stX tp sz x) ≤ 9 := vNu_le
  have hb2 : vNu tp sz 1 7 (pNu tp sz 3 9 (stX tp sz x)) ≤ 7 := vNu_le
  have hn0 : cN (T 1072 10) = 0 := by rw [hT.1 10 (by decide)]; rfl
  rcases hh with rfl | rfl
  all_goals
    refine jx_aload_n dX5_readSands_0 rfl ?_
    refine jx_getR dX5_readSands_1 flX5_14 rfl rfl (by first | exact hRt | exact hR _ _ _ rfl) ?_
    refine jx_VRv (as := []) dX5_readSands_4 mlX5_80 okX9_advance viX9_advance rfl rfl rfl rfl rfl (by decide) (Nat.le_of_ble_eq_true rfl) (tX9_advance_x hW hR hx) (fun t4 hq4 => ?_)
    obtain ⟨J1, rfl, fJ1, gJ1⟩ := hq4
    refine jx_aload_n dX5_readSands_7 rfl ?_
    refine jx_iconst (v := 3) dX5_readSands_8 (by decide) ?_
    refine jx_bipush (v := 9) dX5_readSands_9 (by decide) ?_
    refine jx_VRi (as := [.int _, .int _]) dX5_readSands_11 mlX5_83 okX5_takeNumber viX5_takeNumber rfl rfl rfl rfl rfl (by decide) (Nat.le_of_ble_eq_true rfl) (tX5_takeNumber (lo := 3) (hi := 9) hW hR gJ1 h01 (by decide) (by decide)) (fun x11 t11 hq11 => ?_)
    obtain ⟨J2, rfl, fJ2, gJ2, vJ2, rfl⟩ := hq11
    refine jx_ifB_ne 19 dX5_readSands_14 (by decide) (fun h14 => ?_) (fun h14 => ?_)
    · have hz2 := of_decide_eq_true h14
      have ha1 := vNu_lo hz2
      refine jx_aload_n dX5_readSands_19 rfl ?_
      refine jx_getIE dX5_readSands_20 flX5_87 rfl rfl (vJ2 hz2) ?_
      refine jx_istore_n dX5_readSands_23 rfl (by decide) ?_
      refine jx_aload_n dX5_readSands_24 rfl ?_
      refine jx_iconst (v := 1) dX5_readSands_25 (by decide) ?_
      refine jx_bipush (v := 7) dX5_readSands_26 (by decide) ?_
      refine jx_VRi (as := [.int _, .int _]) dX5_readSands_28 mlX5_83 okX5_takeNumber viX5_takeNumber rfl rfl rfl rfl rfl (by decide) (Nat.le_of_ble_eq_true rfl) (tX5_takeNumber (lo := 1) (hi := 7) hW hR gJ2 hz2 (by decide) (by decide)) (fun x28 t28 hq28 => ?_)
      obtain ⟨J3, rfl, fJ3, gJ3, vJ3, rfl⟩ := hq28
      refine jx_ifB_ne 36 dX5_readSands_31 (by decide) (fun h31 => ?_) (fun h31 => ?_)
      · have hz3 := of_decide_eq_true h31
        have ha2 := vNu_lo hz3
        have hWH : (vNu tp sz 3 9 (stX tp sz x)) * (vNu tp sz 1 7 (pNu tp sz 3 9 (stX tp sz x))) ≤ 9 * 7 := Nat.mul_le_mul hb1 hb2
        refine jx_aload_n dX5_readSands_36 rfl ?_
        refine jx_getR dX5_readSands_37 flX5_33 rfl rfl (by first | exact hRt | exact hR _ _ _ rfl) ?_
        refine jx_getR dX5_readSands_40 flX5_69 rfl rfl (by first | exact hRt | exact hR _ _ _ rfl) ?_
        refine jx_iload_n dX5_readSands_43 rfl ?_
        refine jx_aload_n dX5_readSands_44 rfl ?_
        refine jx_getIE dX5_readSands_45 flX5_87 rfl rfl (vJ3 hz3) ?_
        refine jx_VRv (as := [.int _, .int _]) dX5_readSands_48 mlX5_90 okX8_clear viX8_clear rfl rfl rfl rfl rfl (by decide) (Nat.le_of_ble_eq_true rfl) (tX8_clear (h := _) (W := vNu tp sz 3 9 (stX tp sz x)) (H := vNu tp sz 1 7 (pNu tp sz 3 9 (stX tp sz x))) hW hR (by decide) ⟨ha1, hb1⟩ ⟨ha2, hb2⟩) (fun t48 hq48 => ?_)
        obtain ⟨J4, M4, rfl, f1, f2, c1, s1, s2, s3⟩ := hq48
        have gJ4 := C3.f gJ3 (fun j => f1 1005 j (by decide) (by decide)) (fun j => f1 1001 j (by decide) (by decide))
        have hC4 := CTl_cl (by decide) ((hC.r (by decide) (eqR_t (eqV_R fJ1) (eqR_t fJ2 fJ3)) (by omega))) f1 c1 s1 s2 s3 hT hWH
        refine jx_aload_n dX5_readSands_51 rfl ?_
        refine jx_getR dX5_readSands_52 flX5_14 rfl rfl (by first | exact hRt | exact hR _ _ _ rfl) ?_
        refine jx_bipush (v := 59) dX5_readSands_55 (by decide) ?_
        refine jx_VRi (as := [.int _]) dX5_readSands_57 mlX5_65 okX9_takeSign viX9_takeSign rfl rfl rfl rfl rfl (by decide) (Nat.le_of_ble_eq_true rfl) (tX9_takeSign_x (c := 59) hW hR gJ4 hz3 (by decide) (by decide)) (fun x57 t57 hq57 => ?_)
        obtain ⟨J5, rfl, fJ5, gJ5, rfl⟩ := hq57
        refine jx_zret dX5_readSands_60 rfl ?_ ?_
        · first | exact Or.inl rfl | exact Or.inr rfl | exact jb_or _
        refine ⟨_, rfl, J5, M4, rfl, eqG_t (eqR_G (eqR_t (eqV_R fJ1) (eqR_t fJ2 fJ3))) (eqG_t (fun b j hb => ?_) (eqR_G fJ5)), fun b j q1 q2 => f2 b j q1, gJ5, fun q => ⟨⟨ha1, hb1, ha2, hb2⟩, ?_, ?_⟩, rfl⟩
        · have hb := of_decide_eq_false hb
          exact f1 b j (by omega) (by omega)
        · exact hC4.r (by decide) fJ5 (by rw [(bgT_sands hT _ _).2.2.1 10 (by decide)]; omega)
        · exact (fJ5 1004 3 (by decide)).trans ((f1 1004 3 (by decide) (by decide)).trans ((fJ3 1004 3 (by decide)).trans ((fJ2 1004 3 (by decide)).trans (eqV_R fJ1 1004 3 (by decide)))))
      · have hz3 := of_decide_eq_false h31
        have hp : pMk tp sz 59 (pNu tp sz 1 7 (pNu tp sz 3 9 (stX tp sz x))) = pNu tp sz 1 7 (pNu tp sz 3 9 (stX tp sz x)) := pMk_f hz3
        refine jx_iconst (v := 0) dX5_readSands_34 (by decide) ?_
        refine jx_zret dX5_readSands_35 rfl ?_ ?_
        · first | exact Or.inl rfl | exact Or.inr rfl | exact jb_or _
        rw [hp]
        exact ⟨_, rfl, J3, L, rfl, eqR_G (eqR_t (eqV_R fJ1) (eqR_t fJ2 fJ3)), eqGL_r _ L, gJ3, fun q => absurd q hz3, by rw [decide_eq_false hz3]; rfl⟩
    · have hz2 := of_decide_eq_false h14
      have hp : pMk tp sz 59 (pNu tp sz 1 7 (pNu tp sz 3 9 (stX tp sz x))) = pNu tp sz 3 9 (stX tp sz x) := by rw [pNu_b hz2, pMk_f hz2]
      refine jx_iconst (v := 0) dX5_readSands_17 (by decide) ?_
      refine jx_zret dX5_readSands_18 rfl ?_ ?_
      · first | exact Or.inl rfl | exact Or.inr rfl | exact jb_or _
      rw [hp]
      exact ⟨_, rfl, J2, L, rfl, eqR_G (eqR_t (eqV_R fJ1) fJ2), eqGL_r _ L, gJ2, fun q => absurd q hz2, by rw [decide_eq_false hz2]; rfl⟩
end CZ20
