/-! all lines -/
section LN
variable {T : Nat → Nat → Int32} {W H np len : Nat} {tp : Nat → Nat} {sz : Nat} {x : Nat × Nat × Nat}
theorem stX_le (h : x.1 ≤ sz) : x.1 ≤ (stX tp sz x).1 ∧ (stX tp sz x).1 ≤ sz := nxt_le h
theorem pNu_le {lo hi : Nat} (h : x.1 ≤ sz) : x.1 ≤ (pNu tp sz lo hi x).1 ∧ (pNu tp sz lo hi x).1 ≤ sz := by
  have := nxt_le (tp := tp) h
  unfold pNu
  split
  · split
    · exact this
    · exact ⟨Nat.le_refl _, h⟩
  · exact ⟨Nat.le_refl _, h⟩
theorem pNw_1 {lo hi : Nat} : (pNw tp sz lo hi x).1 = x.1 := by
  unfold pNw
  split
  · split <;> rfl
  · rfl
theorem pSg1_le (h : x.1 ≤ sz) : x.1 ≤ (pSg1 tp sz x).1 ∧ (pSg1 tp sz x).1 ≤ sz := by
  have := nxt_le (tp := tp) h
  unfold pSg1
  split
  · exact this
  · exact ⟨Nat.le_refl _, h⟩
theorem pPt_1 {n : Nat} : (pPt tp sz n x).1 = x.1 := by
  unfold pPt
  split
  · rw [pWr_1, pNw_1]
  · rw [pNw_1]
theorem stG_le (h : x.1 ≤ sz) : x.1 ≤ (stG tp sz x).1 ∧ (stG tp sz x).1 ≤ sz := by
  unfold stG
  split
  · exact stX_le h
  · exact ⟨Nat.le_refl _, h⟩
theorem fgL_le : ∀ r all (x : Nat × Nat × Nat) (T : Nat → Nat → Int32), x.1 ≤ sz → x.1 ≤ (fgL tp sz r all x T).1.1 ∧ (fgL tp sz r all x T).1.1 ≤ sz
  | 0, _, x, _, h => ⟨Nat.le_refl _, h⟩
  | r + 1, all, x, T, h => by
    rw [fgL]
    split
    · show _ ≤ (pNw tp sz 0 9 x).1 ∧ (pNw tp sz 0 9 x).1 ≤ _
      rw [pNw_1]; exact ⟨Nat.le_refl _, h⟩
    · split
      · show _ ≤ (pWr 2 (pNw tp sz 0 9 x)).1 ∧ (pWr 2 (pNw tp sz 0 9 x)).1 ≤ _
        rw [pWr_1, pNw_1]; exact ⟨Nat.le_refl _, h⟩
      · have h1 : (pNw tp sz 0 9 x).1 ≤ sz := by rw [pNw_1]; exact h
        have h2 := stX_le (tp := tp) h1
        have h3 := fgL_le r (all + vNu tp sz 0 9 x) (stX tp sz (pNw tp sz 0 9 x)) (upI T 1072 (12 + (3 - r)) (nI (vNu tp sz 0 9 x))) h2.2
        rw [pNw_1] at h2
        exact ⟨Nat.le_trans h2.1 h3.1, h3.2⟩
theorem pCl_le {a b : Nat} (h : x.1 ≤ sz) : x.1 ≤ (pCl tp sz a b x).1 ∧ (pCl tp sz a b x).1 ≤ sz := by
  unfold pCl
  rw [pNw_1]
  exact pNu_le h
theorem le2 {a b c d : Nat} (h1 : a ≤ b ∧ b ≤ d) (h2 : b ≤ c ∧ c ≤ d) : a ≤ c ∧ c ≤ d := ⟨Nat.le_trans h1.1 h2.1, h2.2⟩
theorem li_le {seen : Nat} (h : x.1 ≤ sz) : x.1 ≤ (liBody tp sz seen x T).1.1 ∧ (liBody tp sz seen x T).1.1 ≤ sz := by
  have hs := stX_le (tp := tp) h
  have hw : ∀ k, x.1 ≤ (pWr k x).1 ∧ (pWr k x).1 ≤ sz := fun k => by rw [pWr_1]; exact ⟨Nat.le_refl _, h⟩
  unfold liBody
  split
  · split
    · unfold liOne
      split
      · have h1 := pSg1_le (tp := tp) hs.2
        have h2 := pNu_le (tp := tp) (lo := 0) (hi := 2) h1.2
        have h3 := pSg1_le (tp := tp) h2.2
        exact le2 hs (le2 h1 (le2 h2 (le2 h3 (pNu_le h3.2))))
      · split
        · exact le2 hs (pNu_le hs.2)
        · split
          · exact le2 hs (pNu_le hs.2)
          · split
            · exact le2 hs (pNu_le hs.2)
            · split
              · exact le2 hs (fgL_le 4 0 _ T hs.2)
              · obtain ⟨-, m1, m2, -⟩ := mo_expr (tp := tp) (sz := sz) 6 (stX tp sz x, []) hs.2
                exact le2 hs ⟨m1, m2⟩
    · exact hw 5
  · unfold liOth
    split
    · unfold liPty
      split
      · exact hw 2
      · have h1 := pNu_le (tp := tp) (lo := 1) (hi := 4) hs.2
        have h2 := pNu_le (tp := tp) (lo := 0) (hi := 9) h1.2
        have h3 := pNu_le (tp := tp) (lo := 0) (hi := cN (T 1072 1) - 1) h2.2
        exact le2 hs (le2 h1 (le2 h2 (le2 h3 (pNu_le h3.2))))
    · have hcl := pCl_le (tp := tp) (a := cN (T 1072 0)) (b := cN (T 1072 1)) hs.2
      have ht : ∀ k, x.1 ≤ (liThg tp sz k x T).1.1 ∧ (liThg tp sz k x T).1.1 ≤ sz := fun k => by
        unfold liThg
        split
        · exact hw 2
        · split
          · exact le2 hs hcl
          · split
            · refine le2 hs (le2 hcl ?_)
              show _ ≤ (pWr 4 _).1 ∧ (pWr 4 _).1 ≤ sz
              rw [pWr_1]
              exact ⟨Nat.le_refl _, hcl.2⟩
            · exact le2 hs (le2 hcl (stX_le hcl.2))
      split
      · unfold liHt
        split
        · exact le2 hs hcl
        · split
          · refine le2 hs (le2 hcl ?_)
            show _ ≤ (pWr 4 _).1 ∧ (pWr 4 _).1 ≤ sz
            rw [pWr_1]
            exact ⟨Nat.le_refl _, hcl.2⟩
          · have h3 := stX_le (tp := tp) hcl.2
            exact le2 hs (le2 hcl (le2 h3 (pNu_le h3.2)))
      · split
        · have h1 : (stX tp sz x).1 ≤ (pPt tp sz (cN (T 1072 10)) (stX tp sz x)).1 ∧ (pPt tp sz (cN (T 1072 10)) (stX tp sz x)).1 ≤ sz := by rw [pPt_1]; exact ⟨Nat.le_refl _, hs.2⟩
          have h2 := stG_le (tp := tp) h1.2
          have h3 : (stG tp sz (pPt tp sz (cN (T 1072 10)) (stX tp sz x))).1 ≤ (pPt tp sz (cN (T 1072 10)) (stG tp sz (pPt tp sz (cN (T 1072 10)) (stX tp sz x)))).1 ∧ (pPt tp sz (cN (T 1072 10)) (stG tp sz (pPt tp sz (cN (T 1072 10)) (stX tp sz x)))).1 ≤ sz := by
            rw [pPt_1 (x := stG tp sz (pPt tp sz (cN (T 1072 10)) (stX tp sz x)))]; exact ⟨Nat.le_refl _, h2.2⟩
          have h4 := le2 hs (le2 h1 (le2 h2 h3))
          unfold liQrl
          split
          · exact hw 2
          · split
            · exact h4
            · split
              · show _ ≤ (pWr 4 _).1 ∧ (pWr 4 _).1 ≤ sz
                rw [pWr_1]
                exact h4
              · exact le2 h4 (stX_le h4.2)
        · split
          · exact ht 2
          · split
            · exact ht 3
            · split
              · exact ht 4
              · exact hw 1
/-- all lines from x on, at most g -/
def lnL (tp : Nat → Nat) (sz : Nat) : Nat → Nat × Nat × Nat → (Nat → Nat → Int32) → Nat → (Nat × Nat × Nat) × (Nat → Nat → Int32)
  | 0, x, T, _ => (x, T)
  | g + 1, x, T, seen => if x.2.1 ≠ 0 ∨ tKd tp sz x.1 = 0 then (x, T) else lnL tp sz g (pMk tp sz 59 (liBody tp sz seen x T).1) (liBody tp sz seen x T).2 (seen ||| kLn tp sz x)
/-- a whole text; T: what is told at its beginning -/
def islE (tp : Nat → Nat) (sz : Nat) (T : Nat → Nat → Int32) : (Nat × Nat × Nat) × (Nat → Nat → Int32) :=
  if isX tp sz (tBeg tp sz 0, 0, 0) wSan = true then lnL tp sz 701 (pMk tp sz 59 (pNu tp sz 1 7 (pNu tp sz 3 9 (stX tp sz (tBeg tp sz 0, 0, 0))))) (upI (upI T 1072 0 (nI (vNu tp sz 3 9 (stX tp sz (tBeg tp sz 0, 0, 0))))) 1072 1 (nI (vNu tp sz 1 7 (pNu tp sz 3 9 (stX tp sz (tBeg tp sz 0, 0, 0)))))) 0
  else lnL tp sz 701 (tBeg tp sz 0, 0, 0) T 0
theorem lnL_b {g seen : Nat} (h : x.2.1 ≠ 0) : lnL tp sz g x T seen = (x, T) := by
  cases g with
  | zero => rfl
  | succ g => rw [lnL, if_pos (Or.inl h)]
theorem sn_or : ∀ s, s < 64 → ∀ k, k < 64 → ((s ||| k) < 64 ∧ ((s ||| k) &&& 32 = 0 → s &&& 32 = 0 ∧ k &&& 32 = 0)) := by decide +kernel
theorem kLn_32 (h : kLn tp sz x &&& 32 = 0) : kLn tp sz x ≠ 32 := fun e => by rw [e] at h; cases h
theorem kLn_64 : kLn tp sz x < 64 := by
  unfold kLn
  split <;> (try split) <;> (try split) <;> (try split) <;> (try split) <;> (try split) <;> decide
theorem fgL_16 : ∀ r all (x : Nat × Nat × Nat) (T : Nat → Nat → Int32), r ≤ 4 → (fgL tp sz r all x T).2 1072 16 = T 1072 16
  | 0, _, _, _, _ => rfl
  | r + 1, all, x, T, hr => by
    rw [fgL]
    split
    · rfl
    · split
      · rfl
      · rw [fgL_16 r _ _ _ (by omega), upI_j (by omega)]
theorem kLn_in : kLn tp sz x = 0 ∨ kLn tp sz x = 1 ∨ kLn tp sz x = 2 ∨ kLn tp sz x = 4 ∨ kLn tp sz x = 8 ∨ kLn tp sz x = 16 ∨ kLn tp sz x = 32 := by
  unfold kLn
  split
  · omega
  · split
    · omega
    · split
      · omega
      · split
        · omega
        · split
          · omega
          · split <;> omega
theorem li_16 {seen : Nat} (h : kLn tp sz x ≠ 32) : (liBody tp sz seen x T).2 1072 16 = T 1072 16 := by
  unfold liBody
  split
  · rename_i h0
    split
    · have hk := kLn_in (tp := tp) (sz := sz) (x := x)
      unfold liOne
      split
      · simp [upI]
      · split
        · simp [upI]
        · split
          · simp [upI]
          · split
            · simp [upI]
            · split
              · exact fgL_16 4 0 _ T (by omega)
              · omega
    · rfl
  · unfold liOth
    split
    · rename_i k hk
      have := fnd_lt hk
      unfold liPty
      split
      · rfl
      · simp [upI]
    · have ht : ∀ k, k < 5 → (liThg tp sz k x T).2 1072 16 = T 1072 16 := fun k hk => by
        unfold liThg
        split
        · rfl
        · split
          · rfl
          · split
            · rfl
            · show upI _ 1072 k _ 1072 16 = _
              rw [upI_j (by omega)]
              split <;> rw [upI_nea (by decide)]
      split
      · unfold liHt
        split
        · rfl
        · split
          · rfl
          · simp [upI]
      · split
        · unfold liQrl
          split
          · rfl
          · split
            · rfl
            · split
              · rfl
              · unfold qrH
                simp [upI]
        · split
          · exact ht 2 (by decide)
          · split
            · exact ht 3 (by decide)
            · split
              · exact ht 4 (by decide)
              · rfl
theorem RI_c {T' : Nat → Nat → Int32} (h : RI T W H np len) (he : ∀ a j, tlR a j = true → T' a j = T a j) (h2 : ∀ j, j < len → T' 1082 j = T 1082 j) : RI T' W H np len := by
  obtain ⟨⟨hM, h4, hq⟩, hcl, hm, hw, hn0, hp, hr, hf, hs⟩ := h
  have hwh := hM.wh
  have e : ∀ j, j < 17 → T' 1072 j = T 1072 j := fun j hj => he 1072 j (decide_eq_true (by omega))
  refine ⟨⟨⟨(e 0 (by omega)).trans hM.1, (e 1 (by omega)).trans hM.2.1, hM.2.2⟩, by rw [e 4 (by omega)]; exact h4, fun k hk => ?_⟩, fun c hc => ?_, by rw [e 5 (by omega), e 6 (by omega)]; exact hm, by rw [e 7 (by omega), e 8 (by omega), e 9 (by omega)]; exact hw, ⟨(e 10 (by omega)).trans hn0.1, hn0.2⟩, fun p hpn => ?_, ⟨(e 16 (by omega)).trans hr.1, hr.2.1, wok_c (fun k hk => (h2 k hk).symm) hr.2.2.1, ?_⟩, fun f hf4 => by rw [e (12 + f) (by omega)]; exact hf f hf4, by rw [e 12 (by omega), e 13 (by omega), e 14 (by omega), e 15 (by omega)]; exact hs⟩
  · rw [e 4 (by omega)] at hk
    rw [he 1075 k (decide_eq_true (by omega))]
    exact hq k hk
  · rw [he 1073 c (decide_eq_true (by omega)), he 1074 c (decide_eq_true (by omega))]
    exact hcl c hc
  · rw [he 1076 p (decide_eq_true (by omega)), he 1077 p (decide_eq_true (by omega)), he 1078 p (decide_eq_true (by omega)), he 1079 p (decide_eq_true (by omega)), he 1080 p (decide_eq_true (by omega)), he 1081 p (decide_eq_true (by omega))]
    exact hp p hpn
  · rw [wdep_c (f := T' 1082) (g := T 1082) len h2]
    exact hr.2.2.2
/-- what is told when a text begins -/
def bgT (T : Nat → Nat → Int32) : Prop := (∀ j, j < 17 → T 1072 j = if j = 0 then 6 else if j = 1 then 4 else if j = 8 then 2 else if j = 9 then 9 else if j = 12 then 1 else 0) ∧ (∀ c, c < 63 → T 1073 c = 4 ∧ T 1074 c = 0 ∧ T 1084 c = 0)
theorem BT_bg (h : bgT T) (hW : T 1072 0 = nI W) (hH : T 1072 1 = nI H) (hb : 3 ≤ W ∧ W ≤ 9 ∧ 1 ≤ H ∧ H ≤ 7) : BT T W H 0 0 := by
  have hwh : W * H ≤ 63 := Nat.mul_le_mul hb.2.1 hb.2.2.2
  have e : ∀ j, j < 17 → j ≠ 0 → j ≠ 1 → j ≠ 8 → j ≠ 9 → j ≠ 12 → T 1072 j = 0 := fun j hj h0 h1 h8 h9 h12 => by
    rw [h.1 j hj, if_neg h0, if_neg h1, if_neg h8, if_neg h9, if_neg h12]
  have e8 : T 1072 8 = 2 := h.1 8 (by omega)
  have e9 : T 1072 9 = 9 := h.1 9 (by omega)
  have e12 : T 1072 12 = 1 := h.1 12 (by omega)
  have z : ∀ j, j < 17 → j ≠ 0 → j ≠ 1 → j ≠ 8 → j ≠ 9 → j ≠ 12 → T 1072 j = nI (cN (T 1072 j)) ∧ cN (T 1072 j) = 0 := fun j hj h0 h1 h8 h9 h12 => by
    rw [e j hj h0 h1 h8 h9 h12]; decide
  have z4 := z 4 (by omega) (by omega) (by omega) (by omega) (by omega) (by omega)
  have z7 := z 7 (by omega) (by omega) (by omega) (by omega) (by omega) (by omega)
  have z11 := z 11 (by omega) (by omega) (by omega) (by omega) (by omega) (by omega)
  refine ⟨⟨⟨⟨hW, hH, hb⟩, ⟨z4.1, by omega⟩, fun k hk => absurd hk (by omega)⟩, fun c hc => ?_, ?_, ⟨⟨z7.1, by omega⟩, by rw [e8]; decide, by rw [e9]; decide⟩, ⟨e 10 (by omega) (by omega) (by omega) (by omega) (by omega) (by omega), by omega⟩, fun p hp => absurd hp (by omega), ⟨e 16 (by omega) (by omega) (by omega) (by omega) (by omega) (by omega), by omega, fun k hk => absurd hk (by omega), Or.inl rfl⟩, fun f hf => ?_, ?_⟩, fun k hk => ?_, ⟨z11.1, by omega⟩, fun c hc => Or.inl (h.2 c hc).2.2⟩
  · have := h.2 c (by omega)
    rw [this.1, this.2.1]; decide
  · rw [e 5 (by omega) (by omega) (by omega) (by omega) (by omega) (by omega), e 6 (by omega) (by omega) (by omega) (by omega) (by omega) (by omega)]; decide
  · by_cases f0 : f = 0
    · rw [f0, e12]; decide
    · have := z (12 + f) (by omega) (by omega) (by omega) (by omega) (by omega) (by omega)
      exact ⟨this.1, by omega⟩
  · rw [e12]
    have : cN (1 : Int32) = 1 := by decide
    omega
  · rcases hk with rfl | rfl
    · have := z 2 (by omega) (by omega) (by omega) (by omega) (by omega) (by omega)
      exact ⟨this.1, by omega⟩
    · have := z 3 (by omega) (by omega) (by omega) (by omega) (by omega) (by omega)
      exact ⟨this.1, by omega⟩
end LN
