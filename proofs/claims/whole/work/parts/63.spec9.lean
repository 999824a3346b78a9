/-! the lines that are told but once -/
section BTo
variable {T : Nat → Nat → Int32} {W H np len : Nat} {tp : Nat → Nat} {sz : Nat} {x : Nat × Nat × Nat}
theorem vSg_2 : -2 ≤ (vSg tp sz 2 x).toInt ∧ (vSg tp sz 2 x).toInt ≤ 2 := by
  have hv : vNu tp sz 0 2 (pSg1 tp sz x) ≤ 2 := vNu_le
  unfold vSg
  generalize vNu tp sz 0 2 (pSg1 tp sz x) = v at hv ⊢
  have : v = 0 ∨ v = 1 ∨ v = 2 := by omega
  split <;> rcases this with rfl | rfl | rfl <;> decide
def sF (T : Nat → Nat → Int32) : Nat → Nat
  | 0 => 0
  | r + 1 => cN (T 1072 (12 + (3 - r))) + sF T r
theorem fgL_ok : ∀ r all (x : Nat × Nat × Nat) (T : Nat → Nat → Int32), r ≤ 4 → (fgL tp sz r all x T).1.2.1 = 0 →
    (∀ j, j < 12 + (4 - r) ∨ 16 ≤ j → (fgL tp sz r all x T).2 1072 j = T 1072 j) ∧ (∀ a j, a ≠ 1072 → (fgL tp sz r all x T).2 a j = T a j) ∧
    (∀ f, 4 - r ≤ f → f < 4 → (fgL tp sz r all x T).2 1072 (12 + f) = nI (cN ((fgL tp sz r all x T).2 1072 (12 + f))) ∧ cN ((fgL tp sz r all x T).2 1072 (12 + f)) ≤ 9) ∧ (0 < r → 0 < all + sF (fgL tp sz r all x T).2 r)
  | 0, all, x, T, _, _ => ⟨fun _ _ => rfl, fun _ _ _ => rfl, fun f h1 h2 => absurd h1 (by omega), fun h => absurd h (by omega)⟩
  | r + 1, all, x, T, hr, hf => by
    rw [fgL] at hf ⊢
    by_cases c1 : (pNw tp sz 0 9 x).2.1 ≠ 0
    · rw [if_pos c1] at hf
      exact absurd hf c1
    · rw [if_neg c1] at hf ⊢
      by_cases c2 : r = 0 ∧ all + vNu tp sz 0 9 x = 0
      · rw [if_pos c2] at hf
        have hf : (pWr 2 (pNw tp sz 0 9 x)).2.1 = 0 := hf
        unfold pWr at hf
        rw [if_pos (by omega)] at hf
        cases hf
      · rw [if_neg c2] at hf ⊢
        have hv : vNu tp sz 0 9 x ≤ 9 := vNu_le
        generalize vNu tp sz 0 9 x = v at hv hf c2 ⊢
        obtain ⟨a1, a2, a3, a4⟩ := fgL_ok r (all + v) (stX tp sz (pNw tp sz 0 9 x)) (upI T 1072 (12 + (3 - r)) (nI v)) (by omega) hf
        have hk := nI_ok (v := v) (by omega)
        have e : (fgL tp sz r (all + v) (stX tp sz (pNw tp sz 0 9 x)) (upI T 1072 (12 + (3 - r)) (nI v))).2 1072 (12 + (3 - r)) = nI v := by
          rw [a1 _ (by omega), upI_s]
        refine ⟨fun j hj => ?_, fun a j ha => ?_, fun f h1 h2 => ?_, fun _ => ?_⟩
        · rw [a1 j (by omega), upI_j (by omega)]
        · rw [a2 a j ha, upI_nea ha]
        · by_cases z : f = 3 - r
          · rw [z, e]; exact ⟨hk.1, by rw [hk.2]; exact hv⟩
          · exact a3 f (by omega) h2
        · show 0 < all + (cN _ + sF _ r)
          rw [e, hk.2]
          by_cases z : r = 0
          · omega
          · have := a4 (by omega)
            omega
theorem BT_one (hB : BT T W H np len) {k : Nat} (hx : x.1 ≤ sz) (hx0 : x.2.1 = 0) (hsz : sz ≤ 700) (hf : (liOne tp sz k x T).1.2.1 = 0) : ∃ len', BT (liOne tp sz k x T).2 W H np len' := by
  have hn := hB.1.2.2.2.2.1
  have hE := hB.1.2.2.2.1
  unfold liOne at hf ⊢
  by_cases c1 : k = 1
  · rw [if_pos c1]
    have g1 := vSg_2 (tp := tp) (sz := sz) (x := stX tp sz x)
    have g2 := vSg_2 (tp := tp) (sz := sz) (x := pNu tp sz 0 2 (pSg1 tp sz (stX tp sz x)))
    generalize vSg tp sz 2 (stX tp sz x) = v1 at g1 ⊢
    generalize vSg tp sz 2 (pNu tp sz 0 2 (pSg1 tp sz (stX tp sz x))) = v2 at g2 ⊢
    dsimp only
    refine ⟨len, BT_c hB (by simp [upI]) (by simp [upI]) (Or.inl ⟨by simp [upI], fun j => by simp [upI]⟩) (Or.inl ⟨fun j => by simp [upI], fun j => by simp [upI]⟩) (Or.inr ?_) (Or.inl ⟨by simp [upI], by simp [upI], by simp [upI]⟩) ⟨by simp [upI]; exact hn.1, hn.2⟩ (Or.inl ⟨rfl, fun a h1 h2 j => by rw [upI_nea (by omega), upI_nea (by omega)]⟩) (Or.inl ⟨rfl, by simp [upI], fun j => by simp [upI]⟩) (Or.inl (fun f _ => by rw [upI_j (by omega), upI_j (by omega)])) (Or.inl ⟨by simp [upI], by simp [upI]⟩) (Or.inl (by simp [upI])) (Or.inl (fun j => by simp [upI]))⟩
    unfold bD
    rw [upI_s, upI_j (by decide), upI_s]
    exact ⟨g1, g2⟩
  · rw [if_neg c1] at hf ⊢
    by_cases c2 : k = 2
    · rw [if_pos c2]
      have hv : vNu tp sz 0 9 (stX tp sz x) ≤ 9 := vNu_le
      generalize vNu tp sz 0 9 (stX tp sz x) = v at hv ⊢
      have hk := nI_ok (v := v) (by omega)
      dsimp only
      refine ⟨len, BT_c hB (by simp [upI]) (by simp [upI]) (Or.inl ⟨by simp [upI], fun j => by simp [upI]⟩) (Or.inl ⟨fun j => by simp [upI], fun j => by simp [upI]⟩) (Or.inl ⟨by simp [upI], by simp [upI]⟩) (Or.inr ?_) ⟨by simp [upI]; exact hn.1, hn.2⟩ (Or.inl ⟨rfl, fun a h1 h2 j => by rw [upI_nea (by omega)]⟩) (Or.inl ⟨rfl, by simp [upI], fun j => by simp [upI]⟩) (Or.inl (fun f _ => by rw [upI_j (by omega)])) (Or.inl ⟨by simp [upI], by simp [upI]⟩) (Or.inl (by simp [upI])) (Or.inl (fun j => by simp [upI]))⟩
      unfold bE
      rw [upI_s, upI_j (by decide), upI_j (by decide)]
      exact ⟨⟨hk.1, by rw [hk.2]; exact hv⟩, hE.2⟩
    · rw [if_neg c2] at hf ⊢
      by_cases c4 : k = 4
      · rw [if_pos c4] at hf ⊢
        have hv : vNu tp sz 1 6 (stX tp sz x) ≤ 6 := vNu_le
        have hv1 := vNu_lo hf
        generalize vNu tp sz 1 6 (stX tp sz x) = v at hv hv1 ⊢
        have hk := nI_ok (v := v) (by omega)
        dsimp only
        refine ⟨len, BT_c hB (by simp [upI]) (by simp [upI]) (Or.inl ⟨by simp [upI], fun j => by simp [upI]⟩) (Or.inl ⟨fun j => by simp [upI], fun j => by simp [upI]⟩) (Or.inl ⟨by simp [upI], by simp [upI]⟩) (Or.inr ?_) ⟨by simp [upI]; exact hn.1, hn.2⟩ (Or.inl ⟨rfl, fun a h1 h2 j => by rw [upI_nea (by omega)]⟩) (Or.inl ⟨rfl, by simp [upI], fun j => by simp [upI]⟩) (Or.inl (fun f _ => by rw [upI_j (by omega)])) (Or.inl ⟨by simp [upI], by simp [upI]⟩) (Or.inl (by simp [upI])) (Or.inl (fun j => by simp [upI]))⟩
        unfold bE
        rw [upI_s, upI_j (by decide), upI_j (by decide)]
        exact ⟨hE.1, ⟨hk.1, by rw [hk.2]; exact hv1, by rw [hk.2]; exact hv⟩, hE.2.2⟩
      · rw [if_neg c4] at hf ⊢
        by_cases c8 : k = 8
        · rw [if_pos c8]
          have hv : vNu tp sz 0 20 (stX tp sz x) ≤ 20 := vNu_le
          generalize vNu tp sz 0 20 (stX tp sz x) = v at hv ⊢
          have hk := nI_ok (v := v) (by omega)
          dsimp only
          refine ⟨len, BT_c hB (by simp [upI]) (by simp [upI]) (Or.inl ⟨by simp [upI], fun j => by simp [upI]⟩) (Or.inl ⟨fun j => by simp [upI], fun j => by simp [upI]⟩) (Or.inl ⟨by simp [upI], by simp [upI]⟩) (Or.inr ?_) ⟨by simp [upI]; exact hn.1, hn.2⟩ (Or.inl ⟨rfl, fun a h1 h2 j => by rw [upI_nea (by omega)]⟩) (Or.inl ⟨rfl, by simp [upI], fun j => by simp [upI]⟩) (Or.inl (fun f _ => by rw [upI_j (by omega)])) (Or.inl ⟨by simp [upI], by simp [upI]⟩) (Or.inl (by simp [upI])) (Or.inl (fun j => by simp [upI]))⟩
          unfold bE
          rw [upI_s, upI_j (by decide), upI_j (by decide)]
          exact ⟨hE.1, hE.2.1, hk.1, by rw [hk.2]; exact hv⟩
        · rw [if_neg c8] at hf ⊢
          by_cases c16 : k = 16
          · rw [if_pos c16] at hf ⊢
            obtain ⟨a1, a2, a3, a4⟩ := fgL_ok 4 0 _ T (by omega) hf
            have a5 := a4 (by omega)
            refine ⟨len, BT_c hB (a1 0 (by omega)) (a1 1 (by omega)) (Or.inl ⟨a1 4 (by omega), fun j => a2 _ j (by decide)⟩) (Or.inl ⟨fun j => a2 _ j (by decide), fun j => a2 _ j (by decide)⟩) (Or.inl ⟨a1 5 (by omega), a1 6 (by omega)⟩) (Or.inl ⟨a1 7 (by omega), a1 8 (by omega), a1 9 (by omega)⟩) ⟨(a1 10 (by omega)).trans hn.1, hn.2⟩ (Or.inl ⟨rfl, fun a h1 h2 j => a2 a j (by omega)⟩) (Or.inl ⟨rfl, a1 16 (by omega), fun j => a2 _ j (by decide)⟩) (Or.inr ⟨fun f hf4 => a3 f (by omega) hf4, ?_⟩) (Or.inl ⟨a1 2 (by omega), a1 3 (by omega)⟩) (Or.inl (a1 11 (by omega))) (Or.inl (fun j => a2 _ j (by decide)))⟩
            have a6 : 0 < 0 + (cN _ + (cN _ + (cN _ + (cN _ + 0)))) := a5
            have a7 : 0 < cN ((fgL tp sz 4 0 (stX tp sz x) T).2 1072 12) + (cN ((fgL tp sz 4 0 (stX tp sz x) T).2 1072 13) + (cN ((fgL tp sz 4 0 (stX tp sz x) T).2 1072 14) + (cN ((fgL tp sz 4 0 (stX tp sz x) T).2 1072 15) + 0))) := by
              rw [Nat.zero_add] at a6
              exact a6
            omega
          · rw [if_neg c16] at hf ⊢
            have hnx := nxt_le (tp := tp) hx
            obtain ⟨-, m1, m2, m3⟩ := mo_expr (tp := tp) (sz := sz) 6 (stX tp sz x, []) hnx.2
            have m3 : (exprE tp sz 6 (stX tp sz x, [])).2.length + nxt tp sz x.1 ≤ 0 + (exprE tp sz 6 (stX tp sz x, [])).1.1 := m3
            obtain ⟨g1, g2⟩ := gd_expr (tp := tp) (sz := sz) 6 (stX tp sz x, []) hnx.2 hx0 (fun k hk => absurd hk (Nat.not_lt_zero k)) (by show 0 + 31 ≤ 64; decide) hf
            have g2 : dpL (exprE tp sz 6 (stX tp sz x, [])).2 = 0 + 1 := g2
            generalize (exprE tp sz 6 (stX tp sz x, [])) = y at m1 m2 m3 g1 g2 ⊢
            have e82 : ∀ j, j < y.2.length → y.2.getD j 0 = rlT T y.2 1082 j := fun j hj => by unfold rlT; rw [if_pos ⟨rfl, hj⟩]
            have eo : ∀ a j, a ≠ 1082 → ¬ (a = 1072 ∧ j = 16) → rlT T y.2 a j = T a j := fun a j h1 h2 => by unfold rlT; rw [if_neg (fun q => h1 q.1), if_neg h2]
            have e16 : rlT T y.2 1072 16 = nI y.2.length := by unfold rlT; rw [if_neg (fun q => absurd q.1 (by decide)), if_pos ⟨rfl, rfl⟩]
            dsimp only
            refine ⟨y.2.length, BT_c hB (eo _ _ (by decide) (by decide)) (eo _ _ (by decide) (by decide)) (Or.inl ⟨eo _ _ (by decide) (by decide), fun j => eo _ _ (by decide) (by omega)⟩) (Or.inl ⟨fun j => eo _ _ (by decide) (by omega), fun j => eo _ _ (by decide) (by omega)⟩) (Or.inl ⟨eo _ _ (by decide) (by decide), eo _ _ (by decide) (by decide)⟩) (Or.inl ⟨eo _ _ (by decide) (by decide), eo _ _ (by decide) (by decide), eo _ _ (by decide) (by decide)⟩) ⟨(eo _ _ (by decide) (by decide)).trans hn.1, hn.2⟩ (Or.inl ⟨rfl, fun a h1 h2 j => eo _ _ (by omega) (by omega)⟩) (Or.inr ⟨e16, by omega, wok_c e82 g1, Or.inr ?_⟩) (Or.inl (fun f _ => eo _ _ (by decide) (by omega))) (Or.inl ⟨eo _ _ (by decide) (by decide), eo _ _ (by decide) (by decide)⟩) (Or.inl (eo _ _ (by decide) (by decide))) (Or.inl (fun j => eo _ _ (by decide) (by omega)))⟩
            rw [← wdep_c y.2.length e82]
            show 0 < dpL y.2
            omega
theorem knX_lt {k : Nat} (h : fnd (fun k => isW tp sz x.1 x.2.1 (wKnd k)) 4 = some k) : k < 4 := fnd_lt h
theorem BT_body (hB : BT T W H np len) {seen : Nat} (hx : x.1 ≤ sz) (hx0 : x.2.1 = 0) (hsz : sz ≤ 700) (hf : (liBody tp sz seen x T).1.2.1 = 0) : ∃ np' len', BT (liBody tp sz seen x T).2 W H np' len' := by
  unfold liBody at hf ⊢
  by_cases c : 0 < kLn tp sz x
  · rw [if_pos c] at hf ⊢
    by_cases c2 : seen &&& kLn tp sz x = 0
    · rw [if_pos c2] at hf ⊢
      obtain ⟨l', h⟩ := BT_one hB hx hx0 hsz hf
      exact ⟨np, l', h⟩
    · rw [if_neg c2] at hf ⊢
      exact ⟨np, len, hB⟩
  · rw [if_neg c] at hf ⊢
    unfold liOth at hf ⊢
    cases hv : fnd (fun k => isW tp sz x.1 x.2.1 (wKnd k)) 4 with
    | some k =>
      rw [hv] at hf
      exact ⟨np + 1, len, BT_pty hB (fnd_lt hv) hf hx0⟩
    | none =>
      rw [hv] at hf
      dsimp only at hf ⊢
      by_cases d1 : isX tp sz x wHei = true
      · rw [if_pos d1]; exact ⟨np, len, BT_ht hB⟩
      · rw [if_neg d1] at hf ⊢
        by_cases d2 : isX tp sz x wQua = true
        · rw [if_pos d2] at hf ⊢; exact ⟨np, len, BT_qrl hB hf hx0⟩
        · rw [if_neg d2] at hf ⊢
          by_cases d3 : isX tp sz x wRoc = true
          · rw [if_pos d3]; exact ⟨np, len, BT_thg hB (Or.inl rfl)⟩
          · rw [if_neg d3] at hf ⊢
            by_cases d4 : isX tp sz x wLad = true
            · rw [if_pos d4]; exact ⟨np, len, BT_thg hB (Or.inr (Or.inl rfl))⟩
            · rw [if_neg d4] at hf ⊢
              by_cases d5 : isX tp sz x wQui = true
              · rw [if_pos d5]; exact ⟨np, len, BT_thg hB (Or.inr (Or.inr rfl))⟩
              · rw [if_neg d5]; exact ⟨np, len, hB⟩
end BTo
