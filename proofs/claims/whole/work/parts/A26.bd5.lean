/-! a fault's number is at most 5 -/
section CZ23
variable {tp : Nat → Nat} {sz : Nat} {x : Nat × Nat × Nat} {T : Nat → Nat → Int32}
theorem b5_Wr {k : Nat} (h : x.2.1 ≤ 5) (hk : k ≤ 5) : (pWr k x).2.1 ≤ 5 := by
  unfold pWr
  split
  · exact hk
  · exact h
theorem b5_nC {lo hi b : Nat} : numC tp sz b lo hi ≤ 5 := by
  unfold numC
  split
  · omega
  · split <;> omega
theorem b5_Nu {lo hi : Nat} (h : x.2.1 ≤ 5) : (pNu tp sz lo hi x).2.1 ≤ 5 := by
  unfold pNu
  split
  · split
    · exact Nat.zero_le _
    · exact b5_nC
  · exact h
theorem b5_Nw {lo hi : Nat} (h : x.2.1 ≤ 5) : (pNw tp sz lo hi x).2.1 ≤ 5 := by
  unfold pNw
  split
  · split
    · exact h
    · exact b5_nC
  · exact h
theorem b5_Mk {c : Nat} (h : x.2.1 ≤ 5) : (pMk tp sz c x).2.1 ≤ 5 := by
  unfold pMk
  split
  · split
    · exact Nat.zero_le _
    · show 1 ≤ 5; omega
  · exact h
theorem b5_Sg (h : x.2.1 ≤ 5) : (pSg1 tp sz x).2.1 ≤ 5 := by
  unfold pSg1
  split <;> exact h
theorem b5_st (h : x.2.1 ≤ 5) : (stX tp sz x).2.1 ≤ 5 := h
theorem b5_sG (h : x.2.1 ≤ 5) : (stG tp sz x).2.1 ≤ 5 := by
  unfold stG
  split <;> exact h
theorem b5_Cl {a b : Nat} (h : x.2.1 ≤ 5) : (pCl tp sz a b x).2.1 ≤ 5 := b5_Nw (b5_Nu h)
theorem b5_Pt {n : Nat} (h : x.2.1 ≤ 5) : (pPt tp sz n x).2.1 ≤ 5 := by
  unfold pPt
  split
  · exact b5_Wr (b5_Nw h) (by omega)
  · exact b5_Nw h
theorem b5_fg : ∀ r all (x : Nat × Nat × Nat) (T : Nat → Nat → Int32), x.2.1 ≤ 5 → (fgL tp sz r all x T).1.2.1 ≤ 5
  | 0, _, _, _, h => h
  | r + 1, all, x, T, h => by
    rw [fgL]
    split
    · exact b5_Nw h
    · split
      · exact b5_Wr (b5_Nw h) (by omega)
      · exact b5_fg r _ _ _ (b5_Nw h)
def b5E (F : (Nat × Nat × Nat) × List Int32 → (Nat × Nat × Nat) × List Int32) : Prop := ∀ y : (Nat × Nat × Nat) × List Int32, y.1.2.1 ≤ 5 → (F y).1.2.1 ≤ 5
theorem b5_ly {s : Int32} : b5E (lyY s) := fun y hy => by
  unfold lyY
  split <;> exact hy
theorem b5_lp {c : Nat × Nat × Nat → Option Int32} {F : (Nat × Nat × Nat) × List Int32 → (Nat × Nat × Nat) × List Int32} (hF : b5E F) : ∀ g, b5E (lpL tp sz c F g)
  | 0 => fun _ hy => hy
  | g + 1 => fun y hy => by
    cases h : c y.1 with
    | none => rw [lpL_n h]; exact hy
    | some s => rw [lpL_s h]; exact b5_lp hF g _ (b5_ly _ (hF (stX tp sz y.1, y.2) hy))
theorem b5_part {E : (Nat × Nat × Nat) × List Int32 → (Nat × Nat × Nat) × List Int32} (hE : b5E E) : b5E (partE tp sz E) := fun y hy => by
  unfold partE
  split
  · exact hy
  · split
    · exact b5_ly (pNu tp sz 0 9999 y.1, y.2) (b5_Nu hy)
    · split
      · cases hv : valX tp sz y.1 with
        | none => exact b5_Wr hy (by omega)
        | some v => exact hy
      · exact b5_Mk (hE (pMk tp sz 40 y.1, y.2) (b5_Mk hy))
theorem b5_rpt {s : Int32} : ∀ k, b5E (rpt s k)
  | 0 => fun _ hy => hy
  | k + 1 => fun y hy => b5_rpt k _ (b5_ly y hy)
theorem b5_nt : ∀ r (x : Nat × Nat × Nat), x.2.1 ≤ 5 → (ntL tp sz r x).2.2.1 ≤ 5
  | 0, x, h => by
    rw [ntL]
    split
    · exact b5_Wr h (by omega)
    · exact h
  | r + 1, x, h => by
    rw [ntL]
    split
    · exact b5_nt r (stX tp sz x) h
    · exact h
theorem b5_expr : ∀ e, b5E (exprE tp sz e)
  | 0 => fun y hy => by
    rw [exprE]
    split
    · exact hy
    · split
      · exact b5_Wr hy (by omega)
      · exact b5_Wr hy (by omega)
  | e + 1 => fun y hy => by
    have h1 : b5E (partE tp sz (exprE tp sz e)) := b5_part (b5_expr e)
    have h2 : b5E (prodE tp sz (exprE tp sz e)) := fun y hy => b5_lp h1 701 _ (h1 y hy)
    have h3 : b5E (sumE tp sz (exprE tp sz e)) := fun y hy => b5_lp h2 701 _ (h2 y hy)
    have h4 : b5E (cmpE tp sz (exprE tp sz e)) := fun y hy => b5_lp h3 1 _ (h3 y hy)
    have h5 : b5E (notE tp sz (exprE tp sz e)) := fun y hy => b5_rpt _ _ (h4 ((ntL tp sz 6 y.1).2, y.2) (b5_nt 6 y.1 hy))
    have h6 : b5E (andE tp sz (exprE tp sz e)) := fun y hy => b5_lp h5 701 _ (h5 y hy)
    have h7 : b5E (orE tp sz (exprE tp sz e)) := fun y hy => b5_lp h6 701 _ (h6 y hy)
    rw [exprE]
    split
    · exact hy
    · split
      · exact h7 y hy
      · exact b5_Wr hy (by omega)
theorem b5_li {seen : Nat} (h : x.2.1 ≤ 5) : (liBody tp sz seen x T).1.2.1 ≤ 5 := by
  unfold liBody
  split
  · split
    · unfold liOne
      split
      · exact b5_Nu (b5_Sg (b5_Nu (b5_Sg h)))
      · split
        · exact b5_Nu h
        · split
          · exact b5_Nu h
          · split
            · exact b5_Nu h
            · split
              · exact b5_fg 4 0 _ T h
              · exact b5_expr 6 (stX tp sz x, []) h
    · exact b5_Wr h (by omega)
  · unfold liOth
    split
    · unfold liPty
      split
      · exact b5_Wr h (by omega)
      · exact b5_Nu (b5_Nu (b5_Nu (b5_Nu h)))
    · have hs : (stX tp sz x).2.1 ≤ 5 := h
      have ht : ∀ k, (liThg tp sz k x T).1.2.1 ≤ 5 := fun k => by
        unfold liThg
        split
        · exact b5_Wr h (by omega)
        · split
          · exact b5_Cl hs
          · split
            · exact b5_Wr (b5_Cl hs) (by omega)
            · exact b5_Cl hs
      split
      · unfold liHt
        split
        · exact b5_Cl hs
        · split
          · exact b5_Wr (b5_Cl hs) (by omega)
          · exact b5_Nu (x := stX tp sz (pCl tp sz (cN (T 1072 0)) (cN (T 1072 1)) (stX tp sz x))) (b5_Cl hs)
      · split
        · unfold liQrl
          split
          · exact b5_Wr h (by omega)
          · split
            · exact b5_Pt (b5_sG (b5_Pt hs))
            · split
              · exact b5_Wr (b5_Pt (b5_sG (b5_Pt hs))) (by omega)
              · exact b5_st (b5_Pt (b5_sG (b5_Pt hs)))
        · split
          · exact ht 2
          · split
            · exact ht 3
            · split
              · exact ht 4
              · exact b5_Wr h (by omega)
theorem b5_ln : ∀ g (x : Nat × Nat × Nat) (T : Nat → Nat → Int32) (s : Nat), x.2.1 ≤ 5 → (lnL tp sz g x T s).1.2.1 ≤ 5
  | 0, _, _, _, h => h
  | g + 1, x, T, s, h => by
    rw [lnL]
    split
    · exact h
    · exact b5_ln g _ _ _ (b5_Mk (b5_li h))
theorem b5_isl : (islE tp sz T).1.2.1 ≤ 5 := by
  have h0 : ((tBeg tp sz 0, 0, 0) : Nat × Nat × Nat).2.1 ≤ 5 := Nat.zero_le _
  unfold islE
  split
  · exact b5_ln 701 _ _ 0 (b5_Mk (b5_Nu (b5_Nu (b5_st h0))))
  · exact b5_ln 701 _ _ 0 h0
end CZ23
