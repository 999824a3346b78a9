/-! the told island stays in bounds, line by line -/
def bB (T : Nat → Nat → Int32) (W H : Nat) : Prop := (T 1072 4 = nI (cN (T 1072 4)) ∧ cN (T 1072 4) ≤ 12) ∧ ∀ k, k < cN (T 1072 4) → T 1075 k = nI (cN (T 1075 k)) ∧ cN (T 1075 k) < W * H
def bC (T : Nat → Nat → Int32) (W H : Nat) : Prop := ∀ c, c < W * H → (T 1073 c = nI (cN (T 1073 c)) ∧ cN (T 1073 c) ≤ 9) ∧ T 1074 c = nI (cN (T 1074 c)) ∧ cN (T 1074 c) ≤ 2
def bD (T : Nat → Nat → Int32) : Prop := (-2 ≤ (T 1072 5).toInt ∧ (T 1072 5).toInt ≤ 2) ∧ -2 ≤ (T 1072 6).toInt ∧ (T 1072 6).toInt ≤ 2
def bE (T : Nat → Nat → Int32) : Prop := (T 1072 7 = nI (cN (T 1072 7)) ∧ cN (T 1072 7) ≤ 9) ∧ (T 1072 8 = nI (cN (T 1072 8)) ∧ 1 ≤ cN (T 1072 8) ∧ cN (T 1072 8) ≤ 6) ∧ T 1072 9 = nI (cN (T 1072 9)) ∧ cN (T 1072 9) ≤ 20
def bG (T : Nat → Nat → Int32) (H p : Nat) : Prop := (T 1076 p = nI (cN (T 1076 p)) ∧ cN (T 1076 p) ≤ 3) ∧ (T 1077 p = nI (cN (T 1077 p)) ∧ 1 ≤ cN (T 1077 p) ∧ cN (T 1077 p) ≤ 4) ∧ (T 1078 p = nI (cN (T 1078 p)) ∧ cN (T 1078 p) ≤ 9) ∧ (T 1079 p = nI (cN (T 1079 p)) ∧ cN (T 1079 p) < H) ∧ (T 1080 p = nI (cN (T 1080 p)) ∧ cN (T 1080 p) ≤ 20) ∧ T 1081 p = nI (cN (T 1081 p)) ∧ cN (T 1081 p) < 64
def bH (T : Nat → Nat → Int32) (len : Nat) : Prop := T 1072 16 = nI len ∧ len ≤ 700 ∧ wok (T 1082) len ∧ (len = 0 ∨ 0 < wdep (T 1082) len)
def bI (T : Nat → Nat → Int32) : Prop := (∀ f, f < 4 → T 1072 (12 + f) = nI (cN (T 1072 (12 + f))) ∧ cN (T 1072 (12 + f)) ≤ 9) ∧ 0 < cN (T 1072 12) + cN (T 1072 13) + cN (T 1072 14) + cN (T 1072 15)
def bJ (T : Nat → Nat → Int32) : Prop := ∀ k, k = 2 ∨ k = 3 → T 1072 k = nI (cN (T 1072 k)) ∧ cN (T 1072 k) ≤ 12
theorem BT_c {T T' : Nat → Nat → Int32} {W H np len np' len' : Nat} (hB : BT T W H np len) (e0 : T' 1072 0 = T 1072 0) (e1 : T' 1072 1 = T 1072 1)
    (hb : (T' 1072 4 = T 1072 4 ∧ ∀ j, T' 1075 j = T 1075 j) ∨ bB T' W H) (hc : ((∀ j, T' 1073 j = T 1073 j) ∧ ∀ j, T' 1074 j = T 1074 j) ∨ bC T' W H)
    (hd : (T' 1072 5 = T 1072 5 ∧ T' 1072 6 = T 1072 6) ∨ bD T') (he : (T' 1072 7 = T 1072 7 ∧ T' 1072 8 = T 1072 8 ∧ T' 1072 9 = T 1072 9) ∨ bE T')
    (hn : T' 1072 10 = nI np' ∧ np' ≤ 6) (hg : (np' = np ∧ ∀ a, 1076 ≤ a → a ≤ 1081 → ∀ j, T' a j = T a j) ∨ ∀ p, p < np' → bG T' H p)
    (hh : (len' = len ∧ T' 1072 16 = T 1072 16 ∧ ∀ j, T' 1082 j = T 1082 j) ∨ bH T' len') (hi : (∀ f, f < 4 → T' 1072 (12 + f) = T 1072 (12 + f)) ∨ bI T')
    (hj : (T' 1072 2 = T 1072 2 ∧ T' 1072 3 = T 1072 3) ∨ bJ T') (hk : T' 1072 11 = T 1072 11 ∨ (T' 1072 11 = nI (cN (T' 1072 11)) ∧ cN (T' 1072 11) ≤ 6))
    (hl : (∀ j, T' 1084 j = T 1084 j) ∨ ∀ c, c < 63 → T' 1084 c = 0 ∨ T' 1084 c = 1) : BT T' W H np' len' := by
  obtain ⟨⟨⟨hM, h4, hq⟩, hcl, hm, hw, hn0, hp, hr, hf, hs⟩, hcnt, hql, hto⟩ := hB
  have b1 : bB T' W H := by
    rcases hb with h | h
    · unfold bB; rw [h.1]; exact ⟨h4, fun k hk => by rw [h.2 k]; exact hq k hk⟩
    · exact h
  have b2 : bC T' W H := by
    rcases hc with h | h
    · intro c hc0; rw [h.1, h.2]; exact hcl c hc0
    · exact h
  have b3 : bD T' := by
    rcases hd with h | h
    · unfold bD; rw [h.1, h.2]; exact hm
    · exact h
  have b4 : bE T' := by
    rcases he with h | h
    · unfold bE; rw [h.1, h.2.1, h.2.2]; exact hw
    · exact h
  have b5 : ∀ p, p < np' → bG T' H p := by
    rcases hg with h | h
    · intro p hp0
      unfold bG
      rw [h.2 1076 (by decide) (by decide), h.2 1077 (by decide) (by decide), h.2 1078 (by decide) (by decide), h.2 1079 (by decide) (by decide), h.2 1080 (by decide) (by decide), h.2 1081 (by decide) (by decide)]
      exact hp p (by omega)
    · exact h
  have b6 : bH T' len' := by
    rcases hh with h | h
    · unfold bH
      rw [h.1, h.2.1, show T' 1082 = T 1082 from funext h.2.2]
      exact hr
    · exact h
  have b7 : bI T' := by
    rcases hi with h | h
    · unfold bI
      rw [h 0 (by decide), h 1 (by decide), h 2 (by decide), h 3 (by decide)]
      exact ⟨fun f hf0 => by rw [h f hf0]; exact hf f hf0, hs⟩
    · exact h
  have b8 : bJ T' := by
    rcases hj with h | h
    · intro k hk0
      rcases hk0 with rfl | rfl
      · rw [h.1]; exact hcnt 2 (Or.inl rfl)
      · rw [h.2]; exact hcnt 3 (Or.inr rfl)
    · exact h
  have b9 : T' 1072 11 = nI (cN (T' 1072 11)) ∧ cN (T' 1072 11) ≤ 6 := by
    rcases hk with h | h
    · rw [h]; exact hql
    · exact h
  have b10 : ∀ c, c < 63 → T' 1084 c = 0 ∨ T' 1084 c = 1 := by
    rcases hl with h | h
    · intro c hc0; rw [h]; exact hto c hc0
    · exact h
  exact ⟨⟨⟨⟨e0.trans hM.1, e1.trans hM.2.1, hM.2.2⟩, b1.1, b1.2⟩, b2, b3, b4, hn, b5, b6, b7.1, b7.2⟩, b8, b9, b10⟩
theorem nI_ok {v : Nat} (h : v < 2 ^ 31) : nI v = nI (cN (nI v)) ∧ cN (nI v) = v := ⟨by rw [cN_nI h], cN_nI h⟩
section BTs
variable {T : Nat → Nat → Int32} {W H np len : Nat} {tp : Nat → Nat} {sz : Nat} {x : Nat × Nat × Nat}
theorem BT.wh (hB : BT T W H np len) : cN (T 1072 0) = W ∧ cN (T 1072 1) = H ∧ 3 ≤ W ∧ 1 ≤ H ∧ W * H ≤ 63 ∧ cN (T 1072 10) = np ∧ np ≤ 6 ∧ T 1072 10 = nI np := by
  have hM := hB.1.1.1
  have hwh := hM.wh
  obtain ⟨h1, h2, h3, h4, h5, h6⟩ := hM
  have hn := hB.1.2.2.2.2.1
  exact ⟨by rw [h1]; exact cN_nI (by omega), by rw [h2]; exact cN_nI (by omega), h3, h5, hwh.2, by rw [hn.1]; exact cN_nI (by omega), hn.2, hn.1⟩
theorem BT_ht (hB : BT T W H np len) : BT (liHt tp sz x T).2 W H np len := by
  obtain ⟨ew, eh, hw3, hh1, hwh, -⟩ := hB.wh
  have hn := hB.1.2.2.2.2.1
  unfold liHt
  split
  · exact hB
  · split
    · exact hB
    · rw [ew, eh]
      have hv : vNu tp sz 0 9 (stX tp sz (pCl tp sz W H (stX tp sz x))) ≤ 9 := vNu_le
      generalize vNu tp sz 0 9 (stX tp sz (pCl tp sz W H (stX tp sz x))) = v at hv ⊢
      generalize vCl tp sz W H (stX tp sz x) = c
      have hk := nI_ok (v := v) (by omega)
      dsimp only
      refine BT_c hB (by simp [upI]) (by simp [upI]) (Or.inl ⟨by simp [upI], fun j => by simp [upI]⟩) (Or.inr (fun c' hc' => ?_)) (Or.inl ⟨by simp [upI], by simp [upI]⟩) (Or.inl ⟨by simp [upI], by simp [upI], by simp [upI]⟩) ⟨by simp [upI]; exact hn.1, hn.2⟩ (Or.inl ⟨rfl, fun a h1 h2 j => by rw [upI_nea (by omega), upI_nea (by omega)]⟩) (Or.inl ⟨rfl, by simp [upI], fun j => by simp [upI]⟩) (Or.inl (fun f _ => by simp [upI])) (Or.inl ⟨by simp [upI], by simp [upI]⟩) (Or.inl (by simp [upI])) (Or.inr (fun c' hc' => ?_))
      · have h0 := hB.1.2.1 c' hc'
        have e2 : upI (upI T 1084 c 1) 1073 c (nI v) 1074 c' = T 1074 c' := by simp [upI]
        rw [e2]
        refine ⟨?_, h0.2⟩
        by_cases z : c' = c
        · rw [z, upI_s]; exact ⟨hk.1, by rw [hk.2]; exact hv⟩
        · rw [upI_j z, upI_nea (by decide)]; exact h0.1
      · rw [upI_nea (by decide)]
        by_cases z : c' = c
        · rw [z, upI_s]; exact Or.inr rfl
        · rw [upI_j z]; exact hB.2.2.2 c' hc'
theorem BT_thg (hB : BT T W H np len) {k : Nat} (hk : k = 2 ∨ k = 3 ∨ k = 4) : BT (liThg tp sz k x T).2 W H np len := by
  obtain ⟨ew, eh, hw3, hh1, hwh, -⟩ := hB.wh
  have hn := hB.1.2.2.2.2.1
  unfold liThg
  split
  · exact hB
  · rename_i h12
    split
    · exact hB
    · split
      · exact hB
      · rw [ew, eh]
        have hc : vCl tp sz W H (stX tp sz x) < W * H := vCl_lt (by omega) hh1
        generalize vCl tp sz W H (stX tp sz x) = c at hc ⊢
        have hkc := nI_ok (v := c) (by omega)
        rcases hk with rfl | rfl | rfl
        · have h2 := hB.2.1 2 (Or.inl rfl)
          have h3 := hB.2.1 3 (Or.inr rfl)
          have hv := nI_ok (v := cN (T 1072 2) + 1) (by omega)
          rw [if_neg (by decide)]
          dsimp only
          refine BT_c hB (by simp [upI]) (by simp [upI]) (Or.inl ⟨by simp [upI], fun j => by simp [upI]⟩) (Or.inr (fun c' hc' => ?_)) (Or.inl ⟨by simp [upI], by simp [upI]⟩) (Or.inl ⟨by simp [upI], by simp [upI], by simp [upI]⟩) ⟨by simp [upI]; exact hn.1, hn.2⟩ (Or.inl ⟨rfl, fun a h1 h2 j => by rw [upI_nea (by omega), upI_nea (by omega)]⟩) (Or.inl ⟨rfl, by simp [upI], fun j => by simp [upI]⟩) (Or.inl (fun f _ => by rw [upI_j (by omega), upI_nea (by decide)])) (Or.inr (fun k hk => ?_)) (Or.inl (by simp [upI])) (Or.inl (fun j => by simp [upI]))
          · have h0 := hB.1.2.1 c' hc'
            rw [upI_nea (by decide), upI_nea (by decide), upI_nea (by decide)]
            refine ⟨h0.1, ?_⟩
            by_cases z : c' = c
            · rw [z, upI_s]; decide
            · rw [upI_j z]; exact h0.2
          · rcases hk with rfl | rfl
            · rw [upI_s]; exact ⟨hv.1, by rw [hv.2]; omega⟩
            · rw [upI_j (by decide), upI_nea (by decide)]; exact h3
        · have h2 := hB.2.1 2 (Or.inl rfl)
          have h3 := hB.2.1 3 (Or.inr rfl)
          have hv := nI_ok (v := cN (T 1072 3) + 1) (by omega)
          rw [if_neg (by decide)]
          dsimp only
          refine BT_c hB (by simp [upI]) (by simp [upI]) (Or.inl ⟨by simp [upI], fun j => by simp [upI]⟩) (Or.inr (fun c' hc' => ?_)) (Or.inl ⟨by simp [upI], by simp [upI]⟩) (Or.inl ⟨by simp [upI], by simp [upI], by simp [upI]⟩) ⟨by simp [upI]; exact hn.1, hn.2⟩ (Or.inl ⟨rfl, fun a h1 h2 j => by rw [upI_nea (by omega), upI_nea (by omega)]⟩) (Or.inl ⟨rfl, by simp [upI], fun j => by simp [upI]⟩) (Or.inl (fun f _ => by rw [upI_j (by omega), upI_nea (by decide)])) (Or.inr (fun k hk => ?_)) (Or.inl (by simp [upI])) (Or.inl (fun j => by simp [upI]))
          · have h0 := hB.1.2.1 c' hc'
            rw [upI_nea (by decide), upI_nea (by decide), upI_nea (by decide)]
            refine ⟨h0.1, ?_⟩
            by_cases z : c' = c
            · rw [z, upI_s]; decide
            · rw [upI_j z]; exact h0.2
          · rcases hk with rfl | rfl
            · rw [upI_j (by decide), upI_nea (by decide)]; exact h2
            · rw [upI_s]; exact ⟨hv.1, by rw [hv.2]; omega⟩
        · have h4 := hB.1.1.2.1
          have hv := nI_ok (v := cN (T 1072 4) + 1) (by omega)
          rw [if_pos rfl]
          dsimp only
          refine BT_c hB (by simp [upI]) (by simp [upI]) (Or.inr ⟨by rw [upI_s]; exact ⟨hv.1, by rw [hv.2]; omega⟩, fun k hk => ?_⟩) (Or.inl ⟨fun j => by simp [upI], fun j => by simp [upI]⟩) (Or.inl ⟨by simp [upI], by simp [upI]⟩) (Or.inl ⟨by simp [upI], by simp [upI], by simp [upI]⟩) ⟨by simp [upI]; exact hn.1, hn.2⟩ (Or.inl ⟨rfl, fun a h1 h2 j => by rw [upI_nea (by omega), upI_nea (by omega)]⟩) (Or.inl ⟨rfl, by simp [upI], fun j => by simp [upI]⟩) (Or.inl (fun f _ => by rw [upI_j (by omega), upI_nea (by decide)])) (Or.inl ⟨by simp [upI], by simp [upI]⟩) (Or.inl (by simp [upI])) (Or.inl (fun j => by simp [upI]))
          rw [upI_s, hv.2] at hk
          rw [upI_nea (by decide)]
          by_cases z : k = cN (T 1072 4)
          · rw [z, upI_s]; exact ⟨hkc.1, by rw [hkc.2]; exact hc⟩
          · rw [upI_j z]; exact hB.1.1.2.2 k (by omega)
theorem pNu_0 {lo hi : Nat} (h : (pNu tp sz lo hi x).2.1 = 0) : x.2.1 = 0 := by
  by_cases z : x.2.1 = 0
  · exact z
  · rw [pNu_b z] at h; exact h
theorem BT_pty (hB : BT T W H np len) {k : Nat} (hk : k < 4) (hf : (liPty tp sz k x T).1.2.1 = 0) (hx : x.2.1 = 0) : BT (liPty tp sz k x T).2 W H (np + 1) len := by
  obtain ⟨ew, eh, hw3, hh1, hwh, en, hn6, hn⟩ := hB.wh
  unfold liPty at hf ⊢
  rw [en, eh] at hf ⊢
  by_cases h6 : np = 6
  · exfalso
    rw [if_pos h6] at hf
    have hf : (pWr 2 x).2.1 = 0 := hf
    unfold pWr at hf
    rw [if_pos hx] at hf
    cases hf
  · rw [if_neg h6] at hf ⊢
    have f4 := pNu_0 hf
    have f3 := pNu_0 f4
    have f2 := pNu_0 f3
    have v1 : vNu tp sz 1 4 (stX tp sz x) ≤ 4 := vNu_le
    have v1' := vNu_lo f2
    have v2 : vNu tp sz 0 9 (pNu tp sz 1 4 (stX tp sz x)) ≤ 9 := vNu_le
    have v3 : vNu tp sz 0 (H - 1) (pNu tp sz 0 9 (pNu tp sz 1 4 (stX tp sz x))) ≤ H - 1 := vNu_le
    have v4 : vNu tp sz 0 20 (pNu tp sz 0 (H - 1) (pNu tp sz 0 9 (pNu tp sz 1 4 (stX tp sz x)))) ≤ 20 := vNu_le
    generalize vNu tp sz 1 4 (stX tp sz x) = a1 at v1 v1' ⊢
    generalize vNu tp sz 0 9 (pNu tp sz 1 4 (stX tp sz x)) = a2 at v2 ⊢
    generalize vNu tp sz 0 (H - 1) (pNu tp sz 0 9 (pNu tp sz 1 4 (stX tp sz x))) = a3 at v3 ⊢
    generalize vNu tp sz 0 20 (pNu tp sz 0 (H - 1) (pNu tp sz 0 9 (pNu tp sz 1 4 (stX tp sz x)))) = a4 at v4 ⊢
    have hH7 : H ≤ 7 := hB.1.1.1.2.2.2.2.2
    have k0 := nI_ok (v := k) (by omega)
    have k1 := nI_ok (v := a1) (by omega)
    have k2 := nI_ok (v := a2) (by omega)
    have k3 := nI_ok (v := a3) (by omega)
    have k4 := nI_ok (v := a4) (by omega)
    dsimp only
    refine BT_c hB (by simp [upI]) (by simp [upI]) (Or.inl ⟨by simp [upI], fun j => by simp [upI]⟩) (Or.inl ⟨fun j => by simp [upI], fun j => by simp [upI]⟩) (Or.inl ⟨by simp [upI], by simp [upI]⟩) (Or.inl ⟨by simp [upI], by simp [upI], by simp [upI]⟩) ⟨by simp [upI], by omega⟩ (Or.inr (fun p hp => ?_)) (Or.inl ⟨rfl, by simp [upI], fun j => by simp [upI]⟩) (Or.inl (fun f _ => by simp [upI]; omega)) (Or.inl ⟨by simp [upI], by simp [upI]⟩) (Or.inl (by simp [upI])) (Or.inl (fun j => by simp [upI]))
    by_cases z : p = np
    · subst z
      unfold bG
      simp only [upI, Nat.reduceEqDiff, false_and, and_false, true_and, and_self, if_true, if_false, and_true]
      exact ⟨⟨k0.1, by rw [k0.2]; omega⟩, ⟨k1.1, by rw [k1.2]; omega, by rw [k1.2]; omega⟩, ⟨k2.1, by rw [k2.2]; omega⟩, ⟨k3.1, by rw [k3.2]; omega⟩, ⟨k4.1, by rw [k4.2]; omega⟩, by decide, by decide⟩
    · have h0 := hB.1.2.2.2.2.2.1 p (by omega)
      unfold bG
      simp only [upI, Nat.reduceEqDiff, false_and, and_false, true_and, and_self, if_true, if_false, z]
      exact h0
theorem or6 : ∀ m, m < 64 → ∀ b, b < 6 → (nI m ||| (1 <<< (nI b &&& 31))) = nI (cN (nI m ||| (1 <<< (nI b &&& 31)))) ∧ cN (nI m ||| (1 <<< (nI b &&& 31))) < 64 := by decide +kernel
theorem BT_qrl (hB : BT T W H np len) (hf : (liQrl tp sz x T).1.2.1 = 0) (hx : x.2.1 = 0) : BT (liQrl tp sz x T).2 W H np len := by
  obtain ⟨ew, eh, hw3, hh1, hwh, en, hn6, hn⟩ := hB.wh
  have hq := hB.2.2.1
  unfold liQrl at hf ⊢
  by_cases h6 : cN (T 1072 11) = 6
  · rw [if_pos h6] at hf ⊢
    exact hB
  · rw [if_neg h6] at hf ⊢
    rw [en] at hf ⊢
    by_cases c1 : (pPt tp sz np (stG tp sz (pPt tp sz np (stX tp sz x)))).2.1 ≠ 0
    · rw [if_pos c1] at hf ⊢
      exact hB
    · rw [if_neg c1] at hf ⊢
      have c1 : (pPt tp sz np (stG tp sz (pPt tp sz np (stX tp sz x)))).2.1 = 0 := by omega
      have hb := vPt_lt c1
      have hx2 : (pPt tp sz np (stX tp sz x)).2.1 = 0 := by
        by_cases z : (pPt tp sz np (stX tp sz x)).2.1 = 0
        · exact z
        · have e1 : stG tp sz (pPt tp sz np (stX tp sz x)) = pPt tp sz np (stX tp sz x) := by unfold stG; rw [if_neg z]
          rw [e1] at c1
          unfold pPt at c1
          rw [show pNw tp sz 0 9999 (if (pNw tp sz 0 9999 (stX tp sz x)).2.1 = 0 ∧ np ≤ vNu tp sz 0 9999 (stX tp sz x) then pWr 3 (pNw tp sz 0 9999 (stX tp sz x)) else pNw tp sz 0 9999 (stX tp sz x)) = pPt tp sz np (stX tp sz x) from pNw_b z] at c1
          rw [if_neg (fun q => z q.1)] at c1
          exact absurd c1 z
      have ha := vPt_lt hx2
      split
      · exact hB
      · generalize vPt tp sz np (stX tp sz x) = a at ha ⊢
        generalize vPt tp sz np (stG tp sz (pPt tp sz np (stX tp sz x))) = b at hb ⊢
        have hv := nI_ok (v := cN (T 1072 11) + 1) (by omega)
        unfold qrH
        dsimp only
        refine BT_c hB (by simp [upI]) (by simp [upI]) (Or.inl ⟨by simp [upI], fun j => by simp [upI]⟩) (Or.inl ⟨fun j => by simp [upI], fun j => by simp [upI]⟩) (Or.inl ⟨by simp [upI], by simp [upI]⟩) (Or.inl ⟨by simp [upI], by simp [upI], by simp [upI]⟩) ⟨by simp [upI]; exact hn, hn6⟩ (Or.inr (fun p hp => ?_)) (Or.inl ⟨rfl, by simp [upI], fun j => by simp [upI]⟩) (Or.inl (fun f _ => by simp [upI]; omega)) (Or.inl ⟨by simp [upI], by simp [upI]⟩) (Or.inr (by rw [upI_s]; exact ⟨hv.1, by rw [hv.2]; omega⟩)) (Or.inl (fun j => by simp [upI]))
        have hP := hB.1.2.2.2.2.2.1
        have g1 : ∀ p, p < np → T 1081 p = nI (cN (T 1081 p)) ∧ cN (T 1081 p) < 64 := fun p hp => (hP p hp).2.2.2.2.2
        have g2 : ∀ p, p < np → upI T 1081 a (T 1081 a ||| (1 <<< (nI b &&& 31))) 1081 p = nI (cN (upI T 1081 a (T 1081 a ||| (1 <<< (nI b &&& 31))) 1081 p)) ∧ cN (upI T 1081 a (T 1081 a ||| (1 <<< (nI b &&& 31))) 1081 p) < 64 := fun p hp => by
          by_cases z : p = a
          · rw [z, upI_s, (g1 a ha).1]
            exact or6 _ (g1 a ha).2 b (by omega)
          · rw [upI_j z]; exact g1 p hp
        have h0 := hP p hp
        unfold bG
        rw [upI_nea (by decide), upI_nea (by decide), upI_nea (by decide), upI_nea (by decide), upI_nea (by decide), upI_nea (by decide), upI_nea (by decide), upI_nea (by decide), upI_nea (by decide), upI_nea (by decide), upI_nea (by decide), upI_nea (by decide), upI_nea (by decide), upI_nea (by decide), upI_nea (by decide), upI_nea (by decide)]
        refine ⟨h0.1, h0.2.1, h0.2.2.1, h0.2.2.2.1, h0.2.2.2.2.1, ?_⟩
        by_cases z : p = b
        · rw [z, upI_s]
          have g := g2 b hb
          rw [g.1]
          exact or6 _ g.2 a (by omega)
        · rw [upI_j z]; exact g2 p hp
end BTs
