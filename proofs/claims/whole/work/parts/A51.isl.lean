/-! the law's case of a text -/
section SI
variable {w : jWD} {l : Launch} {n : Nat} {I J K K0 : Nat → Nat → Int32} {L M : Nat → Nat → Int64} {R R' : Nat → Nat → Option Nat} {h g W H np len b s tn : Nat} {tp : Nat → Nat} {T : Nat → Nat → Int32}
theorem CX_B (hX : CX I L R h T W H np len) (e1 : ∀ a j, h ≤ a → a < h + 16 → J a j = I a j) (e2 : ∀ j, J 1041 j = I 1041 j) (e3 : ∀ j, J 1042 j = I 1042 j) (l1 : ∀ a j, a = h + 1 ∨ a = h + 4 → M a j = L a j) (l2 : M 1040 2 = L 1040 2) (r1 : R' 1000 4 = R 1000 4) (r2 : R' 1040 0 = R 1040 0) : CX J M R' h T W H np len := by
  obtain ⟨⟨c1, c2, c3, c4, c5, c6⟩, c7⟩ := hX
  refine ⟨⟨⟨c1.1, r2.trans c1.2⟩, CIs_g c3 c2 (fun a j h1 h2 _ => e1 a j h1 h2) l1 (fun _ _ _ => rfl) (fun _ _ => rfl), c3, c4, fun day hd hb u hu => ?_, fun p day hp hd => ?_⟩, r1.trans c7⟩
  · rw [l2] at hb
    rw [e2]
    exact c5 day hd hb u hu
  · rw [e3]
    exact c6 p day hp hd
theorem tov_e {a j : Nat} (h1 : ¬ (1072 ≤ a ∧ a ≤ 1082)) (h2 : ¬ (a = 1069 ∧ (j = 32 ∨ j = 33 ∨ j = 38 ∨ j = 49 ∨ j = 55))) : tovH K0 a j = K0 a j := by
  unfold tovH
  rw [upI_ne (by omega), upI_ne (by omega), upI_ne (by omega), upI_ne (by omega), upI_ne (by omega), fl_ne (by omega), fl_ne (by omega), fl_ne (by omega), fl_ne (by omega), fl_ne (by omega), fl_ne (by omega), fl_ne (by omega), fl_ne (by omega), fl_ne (by omega), fl_ne (by omega), fl_ne (by omega)]
theorem tov_t {a j : Nat} (h1 : a ≠ 1084) (h2 : tlR a j = true) : tovH K0 a j = K0 a (offU a + j) := by
  have h := of_decide_eq_true h2
  have q : (a = 1072 ∧ j < 17) ∨ (a = 1073 ∧ j < 63) ∨ (a = 1074 ∧ j < 63) ∨ (a = 1075 ∧ j < 12) ∨ (a = 1076 ∧ j < 6) ∨ (a = 1077 ∧ j < 6) ∨ (a = 1078 ∧ j < 6) ∨ (a = 1079 ∧ j < 6) ∨ (a = 1080 ∧ j < 6) ∨ (a = 1081 ∧ j < 6) := by omega
  rcases q with ⟨rfl, hj⟩ | ⟨rfl, hj⟩ | ⟨rfl, hj⟩ | ⟨rfl, hj⟩ | ⟨rfl, hj⟩ | ⟨rfl, hj⟩ | ⟨rfl, hj⟩ | ⟨rfl, hj⟩ | ⟨rfl, hj⟩ | ⟨rfl, hj⟩
  all_goals simp [tovH, upI, fl, offU, hj]
theorem tov_2 {j : Nat} (hj : j < 700) : tovH K0 1082 j = K0 1082 (700 + j) := by simp [tovH, upI, fl, hj]
theorem RS_f (hr : RS R) (e : ∀ a k, ¬ (a = 1006 ∧ k = 3) → ¬ (a = 1004 ∧ k = 2) → ¬ (a = 1000 ∧ (k = 4 ∨ k = 5)) → ¬ (a = 1040 ∧ k = 0) → R' a k = R a k) : RS R' := fun a k x hx => by
  have no : ∀ a k, rtE a k = none → rtE a k = some x → False := fun a k h1 h2 => by rw [h1] at h2; cases h2
  have hx2 := hx
  refine (e a k ?_ ?_ ?_ ?_).trans (hr a k x hx)
  · rintro ⟨rfl, rfl⟩; exact no _ _ rfl hx
  · rintro ⟨rfl, rfl⟩; exact no _ _ rfl hx
  · rintro ⟨rfl, rfl | rfl⟩
    · exact no _ _ rfl hx
    · exact no _ _ rfl hx
  · rintro ⟨rfl, rfl⟩; exact no _ _ rfl hx
theorem hR_1 (K : Nat → Nat → Int32) {a j : Nat} (h1 : 1072 ≤ a) (h2 : a ≤ 1082) : hR K a j = K a j := congrFun (hR_kp K a h1 h2) j
set_option maxHeartbeats 4000000 in
theorem kL_island (hW : jWok w l) (hV : INV I L R) (x1 : Int32) : jCas w l mL_island mX11_island [.int x1] (fun r => r.toInt64) n I L R := by
  obtain ⟨h, g, W, H, np, len, b, s, tn, tp, hv⟩ := hV
  have hRS := hv.rs
  obtain ⟨f1, f2, f3, f4⟩ := hv.pf
  by_cases hg : 0 ≤ x1.toInt ∧ x1.toInt ≤ (tn : Int)
  · have hx : ∃ m : Nat, m ≤ tn ∧ x1 = nI m := ⟨cN x1, by have e : (cN x1 : Int) = x1.toInt := Int.toNat_of_nonneg hg.1; omega, nI_cN hg.1⟩
    obtain ⟨m, hm, rfl⟩ := hx
    have hgg : g = 1008 ∨ g = 1024 := by have := hv.hg; omega
    refine ⟨12, 47, 0, by decide, by decide, jCt_m (gL_island hW (tX10_island hW hRS hgg f1 hm f3 (fun k hk => ⟨(f4 k hk).1, (f4 k hk).2.2⟩) hv.cp (islV_bg I m) hv.cx.2 hv.r5) ?_) ?_⟩
    · rintro r t ⟨J, M, R', q, -⟩
      exact ⟨n, J, M, R', q⟩
    rintro v t ⟨rfl, r, n', J', M', R', ⟨r', rfl, J, M, R2, q, b1, b2⟩, rfl⟩
    have qs := QS_isl (tp := tp) (sz := m) (by omega) (islV_bg I m)
    have kx := KX_isl (tp := tp) (sz := m) (by omega) (islV_bg I m)
    cases q
    have eH : ∀ a j, 1069 ≤ a → J' a j = I a j := fun a j h1 => by
      by_cases z : (islE tp m (islV I m)).1.2.1 = 0
      · exact (b2 z).2.2.2.1 a j (by omega) (by omega) (by omega) (by omega) (by omega)
      · exact (b1 z).2.2.1 a j (by omega) (by omega) (by omega) (by omega)
    have eT := islV_e eH m
    have hRS' : RS R' := by
      by_cases z : (islE tp m (islV I m)).1.2.1 = 0
      · exact RS_f hRS (b2 z).2.1
      · exact RS_f hRS (fun a k h1 h2 _ _ => (b1 z).2.1 a k h1 h2)
    refine ⟨rfl, n, J', _, R', Nat.le_refl _, rfl, jRi_m (tX11_islandV hW hRS' ((eH _ _ (by omega)).trans f2) hm f3 (fun k hk => ⟨(eH _ _ (by omega)).trans (f4 k hk).2.1, (f4 k hk).2.2⟩)) ?_⟩
    rw [eT]
    generalize islE tp m (islV I m) = res at b1 b2 qs kx ⊢
    rintro r t ⟨K0, eM, -, d1, d2⟩
    have eK0 : ∀ a j, ¬ (a = 1069 ∧ (j = 2 ∨ 17 ≤ j ∧ j ≤ 26)) → tldF a j = false → ¬ (a = 1082 ∧ 700 ≤ j) → K0 a j = J' a j := fun a j h1 h2 h3 => by
      rw [eM a j (by simp [prsF, stpF]; omega) h2 h3]
      unfold isl0
      rw [upI_ne (by omega), upI_ne (by omega), upI_ne (by omega), upI_ne (by omega), upI_ne (by omega), upI_ne (by omega)]
    have k2 : K0 1069 2 = 0 := by rw [eM 1069 2 rfl rfl (by omega)]; rfl
    have k17 : K0 1069 17 = 0 := by rw [eM 1069 17 rfl rfl (by omega)]; rfl
    have k26 : K0 1069 26 = -1 := by rw [eM 1069 26 rfl rfl (by omega)]; rfl
    by_cases z : res.1.2.1 = 0
    · obtain ⟨rfl, hRR, hr5, eA, eAL, hcp, j1, j3, j10, j13, j15, j5, j9, W2, H2, np2, len2, cx, hB⟩ := b2 z
      obtain ⟨rfl, rfl, hTL, -⟩ := d2 z
      obtain ⟨W3, H3, np3, len3, hK3, hB3⟩ := kx z
      have qs := qs z
      have eW : W3 = W2 := by
        have a1 := (BT_d hB).1
        have a3 := (BT_d hB3).1
        omega
      subst eW
      have eN2 : cN (res.2 1072 10) = np2 := (BT_d hB).2.2.2.2.2.1
      rw [eN2] at qs
      have hl7 : len2 ≤ 700 := hB.1.2.2.2.2.2.2.1.2.1
      have hl16 : cN (res.2 1072 16) = len2 := by rw [hB.1.2.2.2.2.2.2.1.1]; exact cN_nI (by omega)
      have eK : ∀ a j, ¬ (1072 ≤ a ∧ a ≤ 1082) → a ≠ 1084 → ¬ (a = 1069 ∧ (j = 2 ∨ 17 ≤ j ∧ j ≤ 26 ∨ j = 32 ∨ j = 33 ∨ j = 38 ∨ j = 49 ∨ j = 55)) → tovH K0 a j = J' a j := fun a j h1 h2 h3 => by
        rw [tov_e h1 (by omega)]
        exact eK0 a j (by omega) (by simp [tldF]; omega) (by omega)
      have eI : ∀ a j, ¬ (1072 ≤ a ∧ a ≤ 1082) → a ≠ 1084 → ¬ (a = 1069 ∧ (j = 2 ∨ 17 ≤ j ∧ j ≤ 26 ∨ j = 32 ∨ j = 33 ∨ j = 38 ∨ j = 49 ∨ j = 55)) → a = 1059 ∨ 1069 ≤ a → tovH K0 a j = I a j := fun a j h1 h2 h3 h4 => by
        rw [eK a j h1 h2 h3]
        exact eA a j (by omega) (by omega) (by omega) (by omega) (by omega)
      have eTl : ∀ a j, a ≠ 1084 → tlR a j = true → tovH K0 a j = res.2 a j := fun a j h1 h2 => (tov_t h1 h2).trans (hTL.1 a j h2)
      have hwh := (BT_d hB).2.2.2.2.1
      have hn6 : np2 ≤ 6 := hB.1.2.2.2.2.1.2
      have hWH : W3 * H2 ≤ 63 := Nat.mul_le_mul (RI.tq hB.1).1.2 (RI.tq hB.1).2.1.2
      refine ⟨_, rfl, (tov_e (by omega) (by omega)).trans k2, fun _ => upL_same _ _ _ _, g, h, W3, H2, np2, len2, 0, 0, 0, tp, hRS', ?_, hr5, ?_, ?_, ?_, ?_, ?_, ?_, ?_, ?_, ?_, ?_, ?_, ?_⟩
      · have := hv.hg; omega
      · refine CX_T (CX_o cx (fun a j h1 h2 => eK a j (by omega) (by omega) (by omega)) (fun a j h1 h2 => upL_nea (by omega))) (fun a j h1 h2 => ?_) (fun k hk => ?_)
        · have h3 := of_decide_eq_true h2
          rw [hR_1 _ (by omega) (by omega)]
          exact eTl a j h1 h2
        · rw [hR_1 _ (by decide) (by decide), tov_2 (by omega)]
          exact hTL.2 k (by omega)
      · exact PT_f (I := res.2) hWH hn6 ⟨qs, fun c hc hne => hK3 c (by omega) hne⟩ (fun a j q => eTl a j (by omega) (decide_eq_true (by omega)))
      · exact CPk_f hcp (eK _ _ (by omega) (by omega) (by omega))
      · refine ⟨(eK _ _ (by omega) (by omega) (by omega)).trans j5, ⟨?_, Nat.zero_le _, fun i hi => absurd hi (Nat.not_lt_zero _)⟩, fun i hi => absurd hi (Nat.not_lt_zero _), fun i j _ hj => absurd hj (Nat.not_lt_zero _)⟩
        simp [tovH, upI, fl, nI]
      · refine ⟨(eK _ _ (by omega) (by omega) (by omega)).trans j9, ⟨?_, Nat.zero_le _, fun i hi => absurd hi (Nat.not_lt_zero _)⟩, fun i hi => absurd hi (Nat.not_lt_zero _)⟩
        simp [tovH, upI, fl, nI]
      · intro j hj
        rw [eI 1106 j (by omega) (by omega) (by omega) (by omega), eI 1117 j (by omega) (by omega) (by omega) (by omega)]
        exact hv.pn j hj
      · exact ⟨(eK _ _ (by omega) (by omega) (by omega)).trans j1, (tov_e (by omega) (by omega)).trans k17, Nat.zero_le _, fun k hk => absurd hk (Nat.not_lt_zero _)⟩
      · exact ((eK _ _ (by omega) (by omega) (by omega)).trans j3).trans ((tov_e (by omega) (by omega)).trans k26).symm
      · intro j hj
        rw [eI 1059 j (by omega) (by omega) (by omega) (by omega), eI 1083 j (by omega) (by omega) (by omega) (by omega)]
        exact hv.pc j hj
      · exact Or.inl ⟨(eK _ _ (by omega) (by omega) (by omega)).trans j13, by simp [tovH, upI, fl]⟩
      · exact ⟨false, (eK _ _ (by omega) (by omega) (by omega)).trans j15, by simp [tovH, upI, fl, jb], fun q => absurd q (by decide)⟩
      · exact ⟨false, (eK _ _ (by omega) (by omega) (by omega)).trans j10, by simp [tovH, upI, fl, jb], fun q => absurd q (by decide)⟩
    · obtain ⟨rfl, hRR, eB, eGL, hcp, j1, j3, j59⟩ := b1 z
      obtain ⟨rfl, rfl⟩ := d1 z
      have hl7 : len ≤ 700 := hv.ri.2.2.2.2.2.2.1.2.1
      generalize hK : upI (upI K0 1069 26 (nI res.1.2.2)) 1083 0 (K0 1083 0 + 1) = K
      have eK : ∀ a j, ¬ (a = 1069 ∧ (j = 2 ∨ 17 ≤ j ∧ j ≤ 26)) → tldF a j = false → ¬ (a = 1082 ∧ 700 ≤ j) → ¬ (a = 1083 ∧ j = 0) → K a j = J' a j := fun a j h1 h2 h3 h4 => by
        rw [← hK, upI_ne h4, upI_ne (by omega)]
        exact eK0 a j h1 h2 h3
      have e : ∀ a j, ¬ (a = 1069 ∧ (j = 2 ∨ 17 ≤ j ∧ j ≤ 26)) → ¬ (1072 ≤ a ∧ a ≤ 1082) → a ≠ 1084 → ¬ (a = 1083 ∧ j = 0) → ¬ (a = 1000 ∧ (j = 1 ∨ j = 3)) → ¬ (1004 ≤ a ∧ a ≤ 1007) → ¬ (g ≤ a ∧ a < g + 16) → ¬ (a = 1059 ∧ j = 0) → K a j = I a j := fun a j h1 h2 h3 h4 h5 h6 h7 h8 => by
        rw [eK a j h1 (by simp [tldF]; omega) (by omega) h4]
        exact eB a j h5 h6 h7 h8
      have eTl : ∀ a j, a ≠ 1084 → tlR a j = true → K a j = I a j := fun a j h1 h2 => by
        have h3 := of_decide_eq_true h2
        rw [eK a j (by omega) (by simp [tldF]; omega) (by omega) (by omega)]
        exact eH a j (by omega)
      have hgh := hv.hg
      refine ⟨K, rfl, ?_, fun _ => upL_same _ _ _ _, h, g, W, H, np, len, b, s, 0, tp, hRS', hgh, (hRR _ _ (by omega) (by omega)).trans hv.r5, ?_, PT_f hv.wh.1 hv.wh.2 hv.pt (fun a j q => eTl a j (by omega) (decide_eq_true (by omega))), CPk_f hcp (eK _ _ (by omega) rfl (by omega) (by omega)), PB_f hv.pb (fun a j q => e a j (by omega) (by omega) (by omega) (by omega) (by omega) (by omega) (by omega) (by omega)), PS_f hv.ps (fun a j q => e a j (by omega) (by omega) (by omega) (by omega) (by omega) (by omega) (by omega) (by omega)), PN_f hv.pn (fun a j q => e a j (by omega) (by omega) (by omega) (by omega) (by omega) (by omega) (by omega) (by omega)), ?_, ?_, ?_, PW_f hv.pw (fun a j q => e a j (by omega) (by omega) (by omega) (by omega) (by omega) (by omega) (by omega) (by omega)), PD_f hv.pd (fun a j q => e a j (by omega) (by omega) (by omega) (by omega) (by omega) (by omega) (by omega) (by omega)), PI_f hv.pi (fun a j q => e a j (by omega) (by omega) (by omega) (by omega) (by omega) (by omega) (by omega) (by omega))⟩
      · rw [← hK, upI_nea (by decide), upI_j (by decide)]; exact k2
      · have cx2 : CX K (upL M' 1118 0 (Int32.toInt64 (nI res.1.2.1))) R' h (hR I) W H np len := by
          refine CX_B hv.cx (fun a j h1 h2 => e a j (by omega) (by omega) (by omega) (by omega) (by omega) (by omega) (by omega) (by omega)) (fun j => e _ _ (by omega) (by omega) (by omega) (by omega) (by omega) (by omega) (by omega) (by omega)) (fun j => e _ _ (by omega) (by omega) (by omega) (by omega) (by omega) (by omega) (by omega) (by omega)) (fun a j h1 => ?_) ?_ (hRR _ _ (by omega) (by omega)) (hRR _ _ (by omega) (by omega))
          · rw [upL_nea (by omega)]
            exact eGL a j (by omega) (by omega)
          · rw [upL_nea (by omega)]
            exact eGL _ _ (by omega) (by omega)
        refine CX_T cx2 (fun a j h1 h2 => ?_) (fun k hk => ?_)
        · have h3 := of_decide_eq_true h2
          rw [hR_1 _ (by omega) (by omega), hR_1 _ (by omega) (by omega)]
          exact eTl a j h1 h2
        · rw [hR_1 _ (by decide) (by decide), hR_1 _ (by decide) (by decide), eK _ _ (by omega) (by simp [tldF]) (by omega) (by omega)]
          exact eH _ _ (by decide)
      · exact ⟨(eK _ _ (by omega) rfl (by omega) (by omega)).trans j1, by rw [← hK, upI_nea (by decide), upI_j (by decide)]; exact k17, Nat.zero_le _, fun k hk => absurd hk (Nat.not_lt_zero _)⟩
      · show K 1000 3 = K 1069 26
        rw [eK _ _ (by omega) rfl (by omega) (by omega), j3, ← hK, upI_nea (by decide), upI_s]
      · intro j hj
        by_cases z0 : j = 0
        · subst z0
          have a1 : K 1059 0 = I 1059 0 + 1 := by rw [eK _ _ (by omega) rfl (by omega) (by omega), j59]
          have a2 : K 1083 0 = I 1083 0 + 1 := by rw [← hK, upI_s, eK0 _ _ (by omega) rfl (by omega), eH _ _ (by decide)]
          rw [a1, a2, hv.pc 0 (by decide)]
        · rw [e 1059 j (by omega) (by omega) (by omega) (by omega) (by omega) (by omega) (by omega) (by omega), e 1083 j (by omega) (by omega) (by omega) (by omega) (by omega) (by omega) (by omega) (by omega)]
          exact hv.pc j hj
  · exact case_B hv (by decide) (by decide) (by decide) (bL_island hW (tX10_islandF hW hRS f1 f3 hg)) (fun n' => tX11_islandF hW f2 f3 x1 hg)
end SI
