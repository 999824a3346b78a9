/-! what a line keeps: the counts of rocks and ladders, the signs of the rule -/
section CZ19
variable {tp : Nat → Nat} {sz : Nat} {x : Nat × Nat × Nat} {T T' : Nat → Nat → Int32} {W H np len : Nat}
def okE (F : (Nat × Nat × Nat) × List Int32 → (Nat × Nat × Nat) × List Int32) : Prop := ∀ y : (Nat × Nat × Nat) × List Int32, (∀ s ∈ y.2, okS s) → ∀ s ∈ (F y).2, okS s
theorem okE_ly {s : Int32} (hs : okS s) : okE (lyY s) := fun y hy z hz => by
  unfold lyY at hz
  split at hz
  · rcases List.mem_append.mp hz with q | q
    · exact hy z q
    · rw [List.mem_singleton.mp q]; exact hs
  · exact hy z hz
theorem okE_lp {c : Nat × Nat × Nat → Option Int32} {F : (Nat × Nat × Nat) × List Int32 → (Nat × Nat × Nat) × List Int32} (hc : ∀ x s, c x = some s → okS s) (hF : okE F) : ∀ g, okE (lpL tp sz c F g)
  | 0 => fun _ hy => hy
  | g + 1 => fun y hy => by
    cases h : c y.1 with
    | none => rw [lpL_n h]; exact hy
    | some s => rw [lpL_s h]; exact okE_lp hc hF g _ (okE_ly (hc _ _ h) _ (hF _ hy))
theorem okE_mk {c1 c2 : Nat} {s1 s2 : Int32} (h1 : okS s1) (h2 : okS s2) : ∀ x s, cMk tp sz c1 c2 s1 s2 x = some s → okS s := fun x s h => by
  unfold cMk at h
  split at h
  · cases h; exact h1
  · split at h
    · cases h; exact h2
    · cases h
theorem okE_wd {cs : List Nat} {s1 : Int32} (h1 : okS s1) : ∀ x s, cWd tp sz cs s1 x = some s → okS s := fun x s h => by
  unfold cWd at h
  split at h
  · cases h; exact h1
  · cases h
theorem okE_part {E : (Nat × Nat × Nat) × List Int32 → (Nat × Nat × Nat) × List Int32} (hE : okE E) : okE (partE tp sz E) := fun y hy => by
  unfold partE
  by_cases c0 : y.1.2.1 ≠ 0
  · rw [if_pos c0]; exact hy
  · rw [if_neg c0]
    by_cases c1 : tKd tp sz y.1.1 = 2
    · rw [if_pos c1]
      have hv : vNu tp sz 0 9999 y.1 ≤ 9999 := vNu_le
      exact okE_ly (Or.inl (nI_gt (by omega)).2) (pNu tp sz 0 9999 y.1, y.2) hy
    · rw [if_neg c1]
      by_cases c2 : tKd tp sz y.1.1 = 1
      · rw [if_pos c2]
        cases hv : valX tp sz y.1 with
        | none => exact hy
        | some v =>
          have hv4 := fnd_lt hv
          intro z hz
          rcases List.mem_append.mp hz with q | q
          · exact hy z q
          · rw [List.mem_singleton.mp q]
            have : v = 0 ∨ v = 1 ∨ v = 2 ∨ v = 3 := by omega
            rcases this with rfl | rfl | rfl | rfl <;> exact Or.inl (by decide)
      · rw [if_neg c2]; exact hE (pMk tp sz 40 y.1, y.2) hy
theorem okE_rpt : ∀ k, okE (rpt (-28) k)
  | 0 => fun _ hy => hy
  | k + 1 => fun y hy => okE_rpt k _ (okE_ly (by unfold okS; simp) y hy)
theorem okE_expr : ∀ e, okE (exprE tp sz e)
  | 0 => fun y hy => by
    rw [exprE]
    split
    · exact hy
    · split <;> exact hy
  | e + 1 => fun y hy => by
    have h1 : okE (partE tp sz (exprE tp sz e)) := okE_part (okE_expr e)
    have h2 : okE (prodE tp sz (exprE tp sz e)) := fun y hy => okE_lp (okE_mk (by unfold okS; simp) (by unfold okS; simp)) h1 701 _ (h1 y hy)
    have h3 : okE (sumE tp sz (exprE tp sz e)) := fun y hy => okE_lp (okE_mk (by unfold okS; simp) (by unfold okS; simp)) h2 701 _ (h2 y hy)
    have h4 : okE (cmpE tp sz (exprE tp sz e)) := fun y hy => okE_lp (okE_mk (by unfold okS; simp) (by unfold okS; simp)) h3 1 _ (h3 y hy)
    have h5 : okE (notE tp sz (exprE tp sz e)) := fun y hy => okE_rpt _ _ (h4 ((ntL tp sz 6 y.1).2, y.2) hy)
    have h6 : okE (andE tp sz (exprE tp sz e)) := fun y hy => okE_lp (okE_wd (by unfold okS; simp)) h5 701 _ (h5 y hy)
    have h7 : okE (orE tp sz (exprE tp sz e)) := fun y hy => okE_lp (okE_wd (by unfold okS; simp)) h6 701 _ (h6 y hy)
    rw [exprE]
    split
    · exact hy
    · split
      · exact h7 y hy
      · exact hy
/-- the signs of the rule that is told -/
def OKT (T : Nat → Nat → Int32) : Prop := ∀ k, k < cN (T 1072 16) → okS (T 1082 k)
/-- what the two need not look at -/
def sm7 (T T' : Nat → Nat → Int32) : Prop := (∀ c, T' 1074 c = T 1074 c) ∧ T' 1072 2 = T 1072 2 ∧ T' 1072 3 = T 1072 3
theorem KT_c (hK : KT T W H) (h : sm7 T T') : KT T' W H := by
  unfold KT
  rw [h.2.1, h.2.2, show (fun c => decide (c < W * H ∧ T' 1074 c = 1)) = (fun c => decide (c < W * H ∧ T 1074 c = 1)) from funext (fun c => by rw [h.1 c]), show (fun c => decide (c < W * H ∧ T' 1074 c = 2)) = (fun c => decide (c < W * H ∧ T 1074 c = 2)) from funext (fun c => by rw [h.1 c])]
  exact hK
theorem OKT_c (hK : OKT T) (h16 : T' 1072 16 = T 1072 16) (h82 : ∀ k, T' 1082 k = T 1082 k) : OKT T' := fun k hk => by
  rw [h16] at hk
  rw [h82]; exact hK k hk
theorem cntN_1 {f g : Nat → Bool} {c : Nat} (hf : f c = false) (hg : g c = true) (ho : ∀ k, k ≠ c → g k = f k) : ∀ n, cntN g n = cntN f n + (if c < n then 1 else 0)
  | 0 => by simp [cntN]
  | n + 1 => by
    have ih := cntN_1 hf hg ho n
    rw [cntN, cntN, ih]
    by_cases z : n = c
    · subst z
      rw [hf, hg, if_neg (Nat.lt_irrefl n), if_pos (Nat.lt_succ_self n)]; simp
    · rw [ho n z]
      by_cases q : c < n
      · rw [if_pos q, if_pos (show c < n + 1 by omega)]; omega
      · rw [if_neg q, if_neg (show ¬ c < n + 1 by omega)]; omega
theorem fgL_sm : ∀ r all (x : Nat × Nat × Nat) (T : Nat → Nat → Int32), r ≤ 4 → (∀ a j, a ≠ 1072 → (fgL tp sz r all x T).2 a j = T a j) ∧ ∀ j, j < 12 ∨ 16 ≤ j → (fgL tp sz r all x T).2 1072 j = T 1072 j
  | 0, _, _, _, _ => ⟨fun _ _ _ => rfl, fun _ _ => rfl⟩
  | r + 1, all, x, T, hr => by
    rw [fgL]
    split
    · exact ⟨fun _ _ _ => rfl, fun _ _ => rfl⟩
    · split
      · exact ⟨fun _ _ _ => rfl, fun _ _ => rfl⟩
      · obtain ⟨a1, a2⟩ := fgL_sm r (all + vNu tp sz 0 9 x) (stX tp sz (pNw tp sz 0 9 x)) (upI T 1072 (12 + (3 - r)) (nI (vNu tp sz 0 9 x))) (by omega)
        exact ⟨fun a j h => by rw [a1 a j h, upI_nea h], fun j h => by rw [a2 j h, upI_j (by omega)]⟩
theorem thg_K {k : Nat} (hk : k = 2 ∨ k = 3 ∨ k = 4) (hB : BT T W H np len) (hK : KT T W H) : KT (liThg tp sz k x T).2 W H := by
  obtain ⟨d1, d2, hWb, hHb, hWH, -, -⟩ := BT_d hB
  unfold liThg
  rw [d1, d2]
  split
  · exact hK
  · rename_i h12
    split
    · exact hK
    · split
      · exact hK
      · rename_i hcl htk
        have htk := Bool.eq_false_iff.mpr htk
        have hc : vCl tp sz W H (stX tp sz x) < W * H := vCl_lt (by omega) (by omega)
        generalize vCl tp sz W H (stX tp sz x) = c at htk hc ⊢
        dsimp only
        rcases hk with rfl | rfl | rfl
        · have h0 := tkn_0 (Or.inl rfl) htk
          have hb := hB.2.1 2 (Or.inl rfl)
          rw [if_neg (by decide)]
          refine ⟨?_, ?_⟩
          · rw [upI_s, cN_nI (by omega), cntN_1 (f := fun c => decide (c < W * H ∧ T 1074 c = 1)) (c := c) (by rw [h0]; exact decide_eq_false (fun q => absurd q.2 (by decide))) (by rw [upI_nea (by decide), upI_s]; exact decide_eq_true ⟨hc, rfl⟩) (fun j hj => by rw [upI_nea (by decide), upI_j hj]) 64, if_pos (by omega), hK.1]
          · rw [upI_j (by decide), upI_nea (by decide), ← hK.2]
            refine cntN_cc 64 (fun j _ => ?_)
            rw [upI_nea (by decide)]
            by_cases z : j = c
            · rw [z, upI_s, h0]; simp [nI]
            · rw [upI_j z]
        · have h0 := tkn_0 (Or.inr rfl) htk
          have hb := hB.2.1 3 (Or.inr rfl)
          rw [if_neg (by decide)]
          refine ⟨?_, ?_⟩
          · rw [upI_j (by decide), upI_nea (by decide), ← hK.1]
            refine cntN_cc 64 (fun j _ => ?_)
            rw [upI_nea (by decide)]
            by_cases z : j = c
            · rw [z, upI_s, h0]; exact decide_eq_decide.mpr ⟨fun q => absurd q.2 (by decide), fun q => absurd q.2 (by decide)⟩
            · rw [upI_j z]
          · rw [upI_s, cN_nI (by omega), cntN_1 (f := fun c => decide (c < W * H ∧ T 1074 c = 2)) (c := c) (by rw [h0]; exact decide_eq_false (fun q => absurd q.2 (by decide))) (by rw [upI_nea (by decide), upI_s]; exact decide_eq_true ⟨hc, rfl⟩) (fun j hj => by rw [upI_nea (by decide), upI_j hj]) 64, if_pos (by omega), hK.2]
        · rw [if_pos rfl]
          exact KT_c hK ⟨fun c => by rw [upI_nea (by decide), upI_nea (by decide)], by rw [upI_j (by decide), upI_nea (by decide)], by rw [upI_j (by decide), upI_nea (by decide)]⟩
theorem KT_body {seen : Nat} (hB : BT T W H np len) (hK : KT T W H) : KT (liBody tp sz seen x T).2 W H := by
  unfold liBody
  split
  · split
    · unfold liOne
      split
      · (try dsimp only)
        exact KT_c hK ⟨fun c => by rw [upI_nea (by decide), upI_nea (by decide)], by rw [upI_j (by decide), upI_j (by decide)], by rw [upI_j (by decide), upI_j (by decide)]⟩
      · split
        · (try dsimp only)
          exact KT_c hK ⟨fun c => upI_nea (by decide), upI_j (by decide), upI_j (by decide)⟩
        · split
          · (try dsimp only)
            exact KT_c hK ⟨fun c => upI_nea (by decide), upI_j (by decide), upI_j (by decide)⟩
          · split
            · (try dsimp only)
              exact KT_c hK ⟨fun c => upI_nea (by decide), upI_j (by decide), upI_j (by decide)⟩
            · split
              · obtain ⟨a1, a2⟩ := fgL_sm (tp := tp) (sz := sz) 4 0 (stX tp sz x) T (by omega)
                exact KT_c hK ⟨fun c => a1 _ _ (by decide), a2 2 (by omega), a2 3 (by omega)⟩
              · (try dsimp only)
                exact KT_c hK ⟨fun c => by unfold rlT; rw [if_neg (by omega), if_neg (by omega)], by unfold rlT; rw [if_neg (by omega), if_neg (by omega)], by unfold rlT; rw [if_neg (by omega), if_neg (by omega)]⟩
    · exact hK
  · unfold liOth
    split
    · unfold liPty
      split
      · exact hK
      · (try dsimp only)
        exact KT_c hK ⟨fun c => by simp [upI], by simp [upI], by simp [upI]⟩
    · split
      · unfold liHt
        split
        · exact hK
        · split
          · exact hK
          · (try dsimp only)
            exact KT_c hK ⟨fun c => by rw [upI_nea (by decide), upI_nea (by decide)], by rw [upI_nea (by decide), upI_nea (by decide)], by rw [upI_nea (by decide), upI_nea (by decide)]⟩
      · split
        · unfold liQrl
          split
          · exact hK
          · split
            · exact hK
            · split
              · exact hK
              · (try dsimp only)
                exact KT_c hK ⟨fun c => by unfold qrH; simp [upI], by unfold qrH; simp [upI], by unfold qrH; simp [upI]⟩
        · split
          · exact thg_K (Or.inl rfl) hB hK
          · split
            · exact thg_K (Or.inr (Or.inl rfl)) hB hK
            · split
              · exact thg_K (Or.inr (Or.inr rfl)) hB hK
              · exact hK
theorem OKT_body {seen : Nat} (hx : x.1 ≤ sz) (hsz : sz ≤ 700) (hK : OKT T) : OKT (liBody tp sz seen x T).2 := by
  unfold liBody
  split
  · split
    · unfold liOne
      split
      · (try dsimp only)
        exact OKT_c hK (by rw [upI_j (by decide), upI_j (by decide)]) (fun c => by rw [upI_nea (by decide), upI_nea (by decide)])
      · split
        · (try dsimp only)
          exact OKT_c hK (upI_j (by decide)) (fun c => upI_nea (by decide))
        · split
          · (try dsimp only)
            exact OKT_c hK (upI_j (by decide)) (fun c => upI_nea (by decide))
          · split
            · (try dsimp only)
              exact OKT_c hK (upI_j (by decide)) (fun c => upI_nea (by decide))
            · split
              · obtain ⟨a1, a2⟩ := fgL_sm (tp := tp) (sz := sz) 4 0 (stX tp sz x) T (by omega)
                exact OKT_c hK (a2 16 (by omega)) (fun c => a1 _ _ (by decide))
              · have h1 := okE_expr (tp := tp) (sz := sz) 6 (stX tp sz x, []) (fun s hs => absurd hs List.not_mem_nil)
                have hnx := nxt_le (tp := tp) hx
                obtain ⟨-, m1, m2, m3⟩ := mo_expr (tp := tp) (sz := sz) 6 (stX tp sz x, []) hnx.2
                have m3 : (exprE tp sz 6 (stX tp sz x, [])).2.length + nxt tp sz x.1 ≤ 0 + (exprE tp sz 6 (stX tp sz x, [])).1.1 := m3
                generalize exprE tp sz 6 (stX tp sz x, []) = y at h1 m1 m2 m3 ⊢
                intro k hk
                have e16 : rlT T y.2 1072 16 = nI y.2.length := by unfold rlT; rw [if_neg (fun q => absurd q.1 (by decide)), if_pos ⟨rfl, rfl⟩]
                have hk : k < cN (rlT T y.2 1072 16) := hk
                rw [e16, cN_nI (by omega)] at hk
                show okS (rlT T y.2 1082 k)
                unfold rlT
                rw [if_pos ⟨rfl, hk⟩, List.getD_eq_getElem?_getD, List.getElem?_eq_getElem hk]
                exact h1 _ (List.getElem_mem hk)
    · exact hK
  · unfold liOth
    split
    · unfold liPty
      split
      · exact hK
      · (try dsimp only)
        exact OKT_c hK (by simp [upI]) (fun c => by simp [upI])
    · have ht : ∀ k, k < 5 → OKT (liThg tp sz k x T).2 := fun k hk => by
        unfold liThg
        split
        · exact hK
        · split
          · exact hK
          · split
            · exact hK
            · refine OKT_c hK ?_ (fun c => ?_)
              · show upI _ 1072 k _ 1072 16 = _
                rw [upI_j (by omega)]
                split <;> rw [upI_nea (by decide)]
              · dsimp only
                rw [upI_nea (show (1082 : Nat) ≠ 1072 by decide)]
                split <;> rw [upI_nea (by decide)]
      split
      · unfold liHt
        split
        · exact hK
        · split
          · exact hK
          · (try dsimp only)
            exact OKT_c hK (by rw [upI_nea (by decide), upI_nea (by decide)]) (fun c => by rw [upI_nea (by decide), upI_nea (by decide)])
      · split
        · unfold liQrl
          split
          · exact hK
          · split
            · exact hK
            · split
              · exact hK
              · (try dsimp only)
                exact OKT_c hK (by unfold qrH; simp [upI]) (fun c => by unfold qrH; simp [upI])
        · split
          · exact ht 2 (by decide)
          · split
            · exact ht 3 (by decide)
            · split
              · exact ht 4 (by decide)
              · exact hK
end CZ19
