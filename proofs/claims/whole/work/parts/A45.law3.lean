/-! rocks and ladders stand in the water alone: kept by every line -/
section LX
variable {tp : Nat → Nat} {sz : Nat} {x : Nat × Nat × Nat} {T T' : Nat → Nat → Int32} {W H np len : Nat}
def KX (T : Nat → Nat → Int32) (W : Nat) : Prop := ∀ c, c < 63 → T 1074 c ≠ 0 → c % W ≠ 0 ∧ c % W ≠ W - 1
theorem KX_c (hK : KX T W) (h : sm7 T T') : KX T' W := fun c hc hne => hK c hc (by rw [← h.1 c]; exact hne)
theorem thg_X {k : Nat} (hk : k = 2 ∨ k = 3 ∨ k = 4) (hB : BT T W H np len) (hK : KX T W) : KX (liThg tp sz k x T).2 W := by
  obtain ⟨d1, d2, hWb, hHb, hWH, -, -⟩ := BT_d hB
  unfold liThg
  rw [d1, d2]
  split
  · exact hK
  · split
    · exact hK
    · split
      · exact hK
      · rename_i hcl htk
        have htk := Bool.eq_false_iff.mpr htk
        generalize vCl tp sz W H (stX tp sz x) = c at htk ⊢
        dsimp only
        unfold tkn at htk
        have main : k ≠ 4 → KX (upI (upI T 1074 c (nI (k - 1))) 1072 k (nI (cN (T 1072 k) + 1))) W := fun h4 q hq hne => by
          rw [if_neg h4, d1] at htk
          have h3 := of_decide_eq_false htk
          by_cases z : q = c
          · subst z
            exact ⟨fun e => h3 (Or.inr (Or.inl e)), fun e => h3 (Or.inr (Or.inr e))⟩
          · rw [upI_nea (by decide), upI_j z] at hne
            exact hK q hq hne
        rcases hk with rfl | rfl | rfl
        · rw [if_neg (by decide)]; exact main (by decide)
        · rw [if_neg (by decide)]; exact main (by decide)
        · rw [if_pos rfl]
          exact fun q hq hne => hK q hq (by rw [upI_nea (by decide), upI_nea (by decide)] at hne; exact hne)
theorem KX_body {seen : Nat} (hB : BT T W H np len) (hK : KX T W) : KX (liBody tp sz seen x T).2 W := by
  unfold liBody
  split
  · split
    · unfold liOne
      split
      · (try dsimp only)
        exact KX_c hK ⟨fun c => by rw [upI_nea (by decide), upI_nea (by decide)], by rw [upI_j (by decide), upI_j (by decide)], by rw [upI_j (by decide), upI_j (by decide)]⟩
      · split
        · (try dsimp only)
          exact KX_c hK ⟨fun c => upI_nea (by decide), upI_j (by decide), upI_j (by decide)⟩
        · split
          · (try dsimp only)
            exact KX_c hK ⟨fun c => upI_nea (by decide), upI_j (by decide), upI_j (by decide)⟩
          · split
            · (try dsimp only)
              exact KX_c hK ⟨fun c => upI_nea (by decide), upI_j (by decide), upI_j (by decide)⟩
            · split
              · obtain ⟨a1, a2⟩ := fgL_sm (tp := tp) (sz := sz) 4 0 (stX tp sz x) T (by omega)
                exact KX_c hK ⟨fun c => a1 _ _ (by decide), a2 2 (by omega), a2 3 (by omega)⟩
              · (try dsimp only)
                exact KX_c hK ⟨fun c => by unfold rlT; rw [if_neg (by omega), if_neg (by omega)], by unfold rlT; rw [if_neg (by omega), if_neg (by omega)], by unfold rlT; rw [if_neg (by omega), if_neg (by omega)]⟩
    · exact hK
  · unfold liOth
    split
    · unfold liPty
      split
      · exact hK
      · (try dsimp only)
        exact KX_c hK ⟨fun c => by simp [upI], by simp [upI], by simp [upI]⟩
    · split
      · unfold liHt
        split
        · exact hK
        · split
          · exact hK
          · (try dsimp only)
            exact KX_c hK ⟨fun c => by rw [upI_nea (by decide), upI_nea (by decide)], by rw [upI_nea (by decide), upI_nea (by decide)], by rw [upI_nea (by decide), upI_nea (by decide)]⟩
      · split
        · unfold liQrl
          split
          · exact hK
          · split
            · exact hK
            · split
              · exact hK
              · (try dsimp only)
                exact KX_c hK ⟨fun c => by unfold qrH; simp [upI], by unfold qrH; simp [upI], by unfold qrH; simp [upI]⟩
        · split
          · exact thg_X (Or.inl rfl) hB hK
          · split
            · exact thg_X (Or.inr (Or.inl rfl)) hB hK
            · split
              · exact thg_X (Or.inr (Or.inr rfl)) hB hK
              · exact hK
theorem KX_ln (hsz : sz ≤ 700) : ∀ g (x : Nat × Nat × Nat) (T : Nat → Nat → Int32) (s : Nat) (W H : Nat), x.1 ≤ sz → x.2.1 = 0 → (∃ np len, BT T W H np len) → KX T W → (lnL tp sz g x T s).1.2.1 = 0 → KX (lnL tp sz g x T s).2 W ∧ ∃ np len, BT (lnL tp sz g x T s).2 W H np len
  | 0, _, _, _, _, _, _, _, hB, hQ, _ => ⟨hQ, hB⟩
  | g + 1, x, T, s, W, H, hx, hx0, hB, hQ, hf => by
    rw [lnL] at hf ⊢
    by_cases c : x.2.1 ≠ 0 ∨ tKd tp sz x.1 = 0
    · rw [if_pos c]; exact ⟨hQ, hB⟩
    · rw [if_neg c] at hf ⊢
      have h1 : (pMk tp sz 59 (liBody tp sz s x T).1).2.1 = 0 := by
        by_cases z : (pMk tp sz 59 (liBody tp sz s x T).1).2.1 = 0
        · exact z
        · rw [lnL_b z] at hf; exact hf
      obtain ⟨np, len, hB⟩ := hB
      have h2 := pMk_0 h1
      have hl := li_le (tp := tp) (sz := sz) (T := T) (seen := s) hx
      obtain ⟨np', len', hB'⟩ := BT_body hB hx hx0 hsz h2
      exact KX_ln hsz g _ _ _ W H (pMk_le hl.2).2 h1 ⟨np', len', hB'⟩ (KX_body hB hQ) hf
theorem KX_isl (hsz : sz ≤ 700) (hT : bgT T) (hf : (islE tp sz T).1.2.1 = 0) : ∃ W H np len, KX (islE tp sz T).2 W ∧ BT (islE tp sz T).2 W H np len := by
  have h0 : KX T 6 ∧ ∀ W, KX T W := ⟨fun c hc hne => absurd (hT.2 c hc).2.1 hne, fun W c hc hne => absurd (hT.2 c hc).2.1 hne⟩
  have hb := scn_le (p := fun k => blkQ (tp k)) (sz := sz) _ 0 rfl (Nat.zero_le _)
  unfold islE at hf ⊢
  by_cases c : isX tp sz (tBeg tp sz 0, 0, 0) wSan = true
  · rw [if_pos c] at hf ⊢
    have h1 : (pMk tp sz 59 (pNu tp sz 1 7 (pNu tp sz 3 9 (stX tp sz (tBeg tp sz 0, 0, 0))))).2.1 = 0 := by
      by_cases z : (pMk tp sz 59 (pNu tp sz 1 7 (pNu tp sz 3 9 (stX tp sz (tBeg tp sz 0, 0, 0))))).2.1 = 0
      · exact z
      · rw [lnL_b z] at hf; exact hf
    have h2 := pMk_0 h1
    have h3 : (pNu tp sz 3 9 (stX tp sz (tBeg tp sz 0, 0, 0))).2.1 = 0 := by
      by_cases z : (pNu tp sz 3 9 (stX tp sz (tBeg tp sz 0, 0, 0))).2.1 = 0
      · exact z
      · rw [pNu_b z] at h2; exact h2
    have l1 := stX_le (tp := tp) (sz := sz) (x := (tBeg tp sz 0, 0, 0)) hb.2
    have l2 := pNu_le (tp := tp) (lo := 3) (hi := 9) l1.2
    have l3 := pNu_le (tp := tp) (lo := 1) (hi := 7) l2.2
    obtain ⟨a1, np, len, a2⟩ := KX_ln hsz 701 _ _ _ _ _ (pMk_le l3.2).2 h1 ⟨0, 0, BT_sands hT ⟨vNu_lo h3, vNu_le, vNu_lo h2, vNu_le⟩⟩ (KX_c (h0.2 _) ⟨fun c => by rw [upI_nea (by decide), upI_nea (by decide)], by rw [upI_j (by decide), upI_j (by decide)], by rw [upI_j (by decide), upI_j (by decide)]⟩) hf
    exact ⟨_, _, np, len, a1, a2⟩
  · rw [if_neg c] at hf ⊢
    obtain ⟨a1, np, len, a2⟩ := KX_ln hsz 701 _ _ _ _ _ hb.2 rfl ⟨0, 0, BT_bg hT (hT.1 0 (by decide)) (hT.1 1 (by decide)) (by decide)⟩ h0.1 hf
    exact ⟨_, _, np, len, a1, a2⟩
end LX
