/-! what is read is well formed: the rule can be reckoned, the told island stays in bounds -/
theorem wdep_c {f g : Nat → Int32} : ∀ m, (∀ k, k < m → f k = g k) → wdep f m = wdep g m
  | 0, _ => rfl
  | m + 1, h => by
    have ih := wdep_c m (fun k hk => h k (by omega))
    show (if -20 < f m then wdep f m + 1 else if f m = -28 then wdep f m else wdep f m - 1) = (if -20 < g m then wdep g m + 1 else if g m = -28 then wdep g m else wdep g m - 1)
    rw [h m (by omega), ih]
theorem wok_c {f g : Nat → Int32} {m : Nat} (h : ∀ k, k < m → f k = g k) (hw : wok f m) : wok g m := fun k hk => by
  have := hw k hk
  rw [h k hk, wdep_c k (fun j hj => h j (by omega))] at this
  exact this
def dpL (l : List Int32) : Nat := wdep (fun k => l.getD k 0) l.length
def wkL (l : List Int32) : Prop := wok (fun k => l.getD k 0) l.length
theorem getD_app {l : List Int32} {s : Int32} {k : Nat} (h : k < l.length) : (l ++ [s]).getD k 0 = l.getD k 0 := by
  rw [List.getD_eq_getElem?_getD, List.getD_eq_getElem?_getD, List.getElem?_append_left h]
theorem getD_last {l : List Int32} {s : Int32} : (l ++ [s]).getD l.length 0 = s := by
  rw [List.getD_eq_getElem?_getD, List.getElem?_append_right (Nat.le_refl _), Nat.sub_self]; rfl
theorem dpL_app (l : List Int32) (s : Int32) : dpL (l ++ [s]) = if -20 < s then dpL l + 1 else if s = -28 then dpL l else dpL l - 1 := by
  unfold dpL
  rw [List.length_append]
  show (if -20 < (l ++ [s]).getD l.length 0 then wdep (fun k => (l ++ [s]).getD k 0) l.length + 1 else if (l ++ [s]).getD l.length 0 = -28 then wdep (fun k => (l ++ [s]).getD k 0) l.length else wdep (fun k => (l ++ [s]).getD k 0) l.length - 1) = _
  rw [getD_last, wdep_c (f := fun k => (l ++ [s]).getD k 0) (g := fun k => l.getD k 0) l.length (fun k hk => getD_app hk)]
def cdS (s : Int32) (d : Nat) : Prop := if -20 < s then d < 64 ∧ (-4 : Int32) ≤ s else if s = -28 then 1 ≤ d else 2 ≤ d
theorem wkL_app {l : List Int32} {s : Int32} (h : wkL l) (hs : if -20 < s then dpL l < 64 ∧ (-4 : Int32) ≤ s else if s = -28 then 1 ≤ dpL l else 2 ≤ dpL l) : wkL (l ++ [s]) := fun k hk => by
  rw [List.length_append] at hk
  have hk : k < l.length + 1 := hk
  by_cases z : k < l.length
  · have := h k z
    show cdS ((l ++ [s]).getD k 0) (wdep (fun k => (l ++ [s]).getD k 0) k)
    rw [wdep_c (f := fun k => (l ++ [s]).getD k 0) (g := fun k => l.getD k 0) k (fun j hj => getD_app (by omega)), getD_app z]
    exact this
  · have e : k = l.length := by omega
    subst e
    show cdS ((l ++ [s]).getD l.length 0) (wdep (fun k => (l ++ [s]).getD k 0) l.length)
    rw [getD_last, wdep_c (f := fun k => (l ++ [s]).getD k 0) (g := fun k => l.getD k 0) l.length (fun j hj => getD_app hj)]
    exact hs
def gdE (sz m : Nat) (F : (Nat × Nat × Nat) × List Int32 → (Nat × Nat × Nat) × List Int32) : Prop := ∀ y : (Nat × Nat × Nat) × List Int32, y.1.1 ≤ sz → y.1.2.1 = 0 → wkL y.2 → dpL y.2 + m ≤ 64 → (F y).1.2.1 = 0 → wkL (F y).2 ∧ dpL (F y).2 = dpL y.2 + 1
theorem nI_gt {v : Nat} (h : v < 2 ^ 31) : (-20 : Int32) < nI v ∧ (-4 : Int32) ≤ nI v := by
  have e := nI_toInt h
  refine ⟨Int32.lt_iff_toInt_lt.mpr ?_, Int32.le_iff_toInt_le.mpr ?_⟩
  · rw [e, show (-20 : Int32).toInt = -20 from by decide]; omega
  · rw [e, show (-4 : Int32).toInt = -4 from by decide]; omega
theorem pMk_0 {tp : Nat → Nat} {sz c : Nat} {x : Nat × Nat × Nat} (h : (pMk tp sz c x).2.1 = 0) : x.2.1 = 0 := by
  by_cases z : x.2.1 = 0
  · exact z
  · unfold pMk at h
    rw [if_neg z] at h
    exact h
theorem gd_part {tp : Nat → Nat} {sz m : Nat} {E : (Nat × Nat × Nat) × List Int32 → (Nat × Nat × Nat) × List Int32} (hmo : moE sz E) (hE : gdE sz m E) (hm : 1 ≤ m) : gdE sz m (partE tp sz E) := fun y hys hy hw hd hf => by
  unfold partE at hf ⊢
  rw [if_neg (fun q => q hy)] at hf ⊢
  by_cases k2 : tKd tp sz y.1.1 = 2
  · rw [if_pos k2] at hf ⊢
    rw [lyY_1] at hf
    have hv : vNu tp sz 0 9999 y.1 ≤ 9999 := vNu_le
    have hg := nI_gt (v := vNu tp sz 0 9999 y.1) (by omega)
    have hf : (pNu tp sz 0 9999 y.1).2.1 = 0 := hf
    have e : lyY (nI (vNu tp sz 0 9999 y.1)) (pNu tp sz 0 9999 y.1, y.2) = (pNu tp sz 0 9999 y.1, y.2 ++ [nI (vNu tp sz 0 9999 y.1)]) := by unfold lyY; rw [if_pos hf]
    rw [e]
    refine ⟨wkL_app hw ?_, ?_⟩
    · rw [if_pos hg.1]; exact ⟨by omega, hg.2⟩
    · show dpL (y.2 ++ [_]) = _
      rw [dpL_app, if_pos hg.1]
  · rw [if_neg k2] at hf ⊢
    by_cases k1 : tKd tp sz y.1.1 = 1
    · rw [if_pos k1] at hf ⊢
      cases hv : valX tp sz y.1 with
      | none =>
        rw [hv] at hf
        have hf : (pWr 3 y.1).2.1 = 0 := hf
        unfold pWr at hf
        rw [if_pos hy] at hf
        cases hf
      | some v =>
        have hv4 := fnd_lt hv
        have hg : (-20 : Int32) < -1 - nI v ∧ (-4 : Int32) ≤ -1 - nI v := by
          have : v = 0 ∨ v = 1 ∨ v = 2 ∨ v = 3 := by omega
          rcases this with rfl | rfl | rfl | rfl <;> decide
        refine ⟨wkL_app hw ?_, ?_⟩
        · rw [if_pos hg.1]; exact ⟨by omega, hg.2⟩
        · show dpL (y.2 ++ [_]) = _
          rw [dpL_app, if_pos hg.1]
    · rw [if_neg k1] at hf ⊢
      have hf : (pMk tp sz 41 (E (pMk tp sz 40 y.1, y.2)).1).2.1 = 0 := hf
      by_cases z : (pMk tp sz 40 y.1).2.1 = 0
      · exact hE (pMk tp sz 40 y.1, y.2) (pMk_le hys).2 z hw hd (pMk_0 hf)
      · exfalso
        have e := (hmo (pMk tp sz 40 y.1, y.2) (pMk_le hys).2).1 z
        rw [e] at hf
        exact z (pMk_0 hf)
def bnC (c : Nat × Nat × Nat → Option Int32) : Prop := ∀ x s, c x = some s → ¬ (-20 : Int32) < s ∧ s ≠ -28
theorem gd_lp0 {tp : Nat → Nat} {sz m : Nat} {c : Nat × Nat × Nat → Option Int32} {F : (Nat × Nat × Nat) × List Int32 → (Nat × Nat × Nat) × List Int32} (hc : okC tp sz c) (hb : bnC c) (hmo : moE sz F) (hF : gdE sz m F) : ∀ g (y : (Nat × Nat × Nat) × List Int32), y.1.1 ≤ sz → y.1.2.1 = 0 → wkL y.2 → 1 ≤ dpL y.2 → dpL y.2 + m ≤ 64 → (lpL tp sz c F g y).1.2.1 = 0 → wkL (lpL tp sz c F g y).2 ∧ dpL (lpL tp sz c F g y).2 = dpL y.2
  | 0, y, _, _, hw, _, _, _ => ⟨hw, rfl⟩
  | g + 1, y, hys, hy, hw, h1, hd, hf => by
    cases h : c y.1 with
    | none => rw [lpL_n h]; exact ⟨hw, rfl⟩
    | some s =>
      rw [lpL_s h] at hf ⊢
      have hn := nxt_le (tp := tp) hys
      obtain ⟨-, a1, a2, -⟩ := hmo (stX tp sz y.1, y.2) hn.2
      have hF0 : (F (stX tp sz y.1, y.2)).1.2.1 = 0 := by
        by_cases z : (F (stX tp sz y.1, y.2)).1.2.1 = 0
        · exact z
        · have e : lyY s (F (stX tp sz y.1, y.2)) = F (stX tp sz y.1, y.2) := by unfold lyY; rw [if_neg z]
          rw [e, ((mo_lp hc hmo g) _ a2).1 z] at hf
          exact hf
      obtain ⟨b1, b2⟩ := hF (stX tp sz y.1, y.2) hn.2 hy hw hd hF0
      have e : lyY s (F (stX tp sz y.1, y.2)) = ((F (stX tp sz y.1, y.2)).1, (F (stX tp sz y.1, y.2)).2 ++ [s]) := by unfold lyY; rw [if_pos hF0]
      have hs := hb _ _ h
      have b2 : dpL (F (stX tp sz y.1, y.2)).2 = dpL y.2 + 1 := b2
      have d1 : dpL ((F (stX tp sz y.1, y.2)).2 ++ [s]) = dpL y.2 := by rw [dpL_app, if_neg hs.1, if_neg hs.2, b2]; omega
      rw [e] at hf ⊢
      have := gd_lp0 hc hb hmo hF g ((F (stX tp sz y.1, y.2)).1, (F (stX tp sz y.1, y.2)).2 ++ [s]) a2 hF0 (wkL_app b1 (by rw [if_neg hs.1, if_neg hs.2, b2]; omega)) (by show 1 ≤ dpL (_ ++ [s]); rw [d1]; exact h1) (by show dpL (_ ++ [s]) + m ≤ 64; rw [d1]; exact hd) hf
      exact ⟨this.1, this.2.trans d1⟩
theorem gd_lp {tp : Nat → Nat} {sz m : Nat} {c : Nat × Nat × Nat → Option Int32} {F : (Nat × Nat × Nat) × List Int32 → (Nat × Nat × Nat) × List Int32} (hc : okC tp sz c) (hb : bnC c) (hmo : moE sz F) (hF : gdE sz m F) (g : Nat) : gdE sz (m + 1) (fun y => lpL tp sz c F g (F y)) := fun y hys hy hw hd hf => by
  have hf : (lpL tp sz c F g (F y)).1.2.1 = 0 := hf
  obtain ⟨-, a1, a2, -⟩ := hmo y hys
  have hF0 : (F y).1.2.1 = 0 := by
    by_cases z : (F y).1.2.1 = 0
    · exact z
    · rw [((mo_lp hc hmo g) _ a2).1 z] at hf
      exact hf
  obtain ⟨b1, b2⟩ := hF y hys hy hw (by omega) hF0
  have := gd_lp0 hc hb hmo hF g (F y) a2 hF0 b1 (by omega) (by omega) hf
  exact ⟨this.1, this.2.trans b2⟩
theorem bnMk {tp : Nat → Nat} {sz c1 c2 : Nat} {s1 s2 : Int32} (h1 : ¬ (-20 : Int32) < s1 ∧ s1 ≠ -28) (h2 : ¬ (-20 : Int32) < s2 ∧ s2 ≠ -28) : bnC (cMk tp sz c1 c2 s1 s2) := fun x s h => by
  unfold cMk at h
  split at h
  · cases h; exact h1
  · split at h
    · cases h; exact h2
    · cases h
theorem bnWd {tp : Nat → Nat} {sz : Nat} {cs : List Nat} {s1 : Int32} (h1 : ¬ (-20 : Int32) < s1 ∧ s1 ≠ -28) : bnC (cWd tp sz cs s1) := fun x s h => by
  unfold cWd at h
  split at h
  · cases h; exact h1
  · cases h
theorem gd_rpt : ∀ k (y : (Nat × Nat × Nat) × List Int32), wkL y.2 → 1 ≤ dpL y.2 → wkL (rpt (-28) k y).2 ∧ dpL (rpt (-28) k y).2 = dpL y.2
  | 0, y, hw, _ => ⟨hw, rfl⟩
  | k + 1, y, hw, h1 => by
    show wkL (rpt (-28) k (lyY (-28) y)).2 ∧ dpL (rpt (-28) k (lyY (-28) y)).2 = dpL y.2
    unfold lyY
    split
    · have d1 : dpL (y.2 ++ [-28]) = dpL y.2 := by rw [dpL_app, if_neg (by decide), if_pos rfl]
      have := gd_rpt k (y.1, y.2 ++ [-28]) (wkL_app hw (by rw [if_neg (by decide), if_pos rfl]; exact h1)) (by show 1 ≤ dpL (y.2 ++ [-28]); rw [d1]; exact h1)
      exact ⟨this.1, this.2.trans d1⟩
    · exact gd_rpt k y hw h1
theorem gd_not {tp : Nat → Nat} {sz m : Nat} {E : (Nat × Nat × Nat) × List Int32 → (Nat × Nat × Nat) × List Int32} (hmo : moE sz E) (hE : gdE sz m (cmpE tp sz E)) : gdE sz m (notE tp sz E) := fun y hys hy hw hd hf => by
  unfold notE at hf ⊢
  obtain ⟨a1, a2, a3, a4, a5⟩ := ntL_le (tp := tp) 6 y.1 hys
  obtain ⟨c1, c2, c3⟩ := rpt_1 (-28) (ntL tp sz 6 y.1).1 (cmpE tp sz E ((ntL tp sz 6 y.1).2, y.2))
  rw [c1] at hf
  have hx : (ntL tp sz 6 y.1).2.2.1 = 0 := by
    by_cases z : (ntL tp sz 6 y.1).2.2.1 = 0
    · exact z
    · rw [(mo_cmp hmo ((ntL tp sz 6 y.1).2, y.2) a1).1 z] at hf
      exact hf
  obtain ⟨b1, b2⟩ := hE ((ntL tp sz 6 y.1).2, y.2) a1 hx hw hd hf
  have b2 : dpL (cmpE tp sz E ((ntL tp sz 6 y.1).2, y.2)).2 = dpL y.2 + 1 := b2
  have := gd_rpt (ntL tp sz 6 y.1).1 _ b1 (by omega)
  exact ⟨this.1, this.2.trans b2⟩
theorem gd_expr {tp : Nat → Nat} {sz : Nat} : ∀ e, gdE sz (5 * e + 1) (exprE tp sz e)
  | 0 => fun y hys hy hw hd hf => by
    exfalso
    unfold exprE at hf
    rw [if_neg (fun q => q hy)] at hf
    split at hf
    · have hf : (pWr 2 y.1).2.1 = 0 := hf
      unfold pWr at hf
      rw [if_pos hy] at hf
      cases hf
    · have hf : (pWr 1 y.1).2.1 = 0 := hf
      unfold pWr at hf
      rw [if_pos hy] at hf
      cases hf
  | e + 1 => fun y hys hy hw hd hf => by
    have ih := gd_expr (tp := tp) (sz := sz) e
    have hm := mo_expr (tp := tp) (sz := sz) e
    have h1 := gd_part (tp := tp) hm ih (by omega)
    have h2 : gdE sz _ (prodE tp sz (exprE tp sz e)) := gd_lp okMk (bnMk (by decide) (by decide)) (mo_part hm) h1 701
    have h3 : gdE sz _ (sumE tp sz (exprE tp sz e)) := gd_lp okMk (bnMk (by decide) (by decide)) (mo_prod hm) h2 701
    have h4 : gdE sz _ (cmpE tp sz (exprE tp sz e)) := gd_lp okMk (bnMk (by decide) (by decide)) (mo_sum hm) h3 1
    have h5 := gd_not hm h4
    have h6 : gdE sz _ (andE tp sz (exprE tp sz e)) := gd_lp okWd (bnWd (by decide)) (mo_not hm) h5 701
    have h7 : gdE sz _ (orE tp sz (exprE tp sz e)) := gd_lp okWd (bnWd (by decide)) (mo_and hm) h6 701
    unfold exprE at hf ⊢
    rw [if_neg (fun q => q hy)] at hf ⊢
    split at hf
    · rename_i hmay
      rw [if_pos hmay]
      exact h7 y hys hy hw (by omega) hf
    · exfalso
      have hf : (pWr 1 y.1).2.1 = 0 := hf
      unfold pWr at hf
      rw [if_pos hy] at hf
      cases hf
