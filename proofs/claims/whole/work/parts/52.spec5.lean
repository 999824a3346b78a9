/-! how a rule of the water is read: a descent; y = ((place, fault, place of the fault), the signs so far) -/
def stX (tp : Nat → Nat) (sz : Nat) (x : Nat × Nat × Nat) : Nat × Nat × Nat := (nxt tp sz x.1, x.2.1, x.2.2)
def lyY (s : Int32) (y : (Nat × Nat × Nat) × List Int32) : (Nat × Nat × Nat) × List Int32 := if y.1.2.1 = 0 then (y.1, y.2 ++ [s]) else y
def wVal (k : Nat) : List Nat := if k = 0 then [104, 111, 117, 114] else if k = 1 then [116, 105, 99, 107] else if k = 2 then [100, 97, 121] else [119, 105, 110, 100]
def wKnd (k : Nat) : List Nat := if k = 0 then [119, 97, 108, 107] else if k = 1 then [104, 111, 114, 115, 101] else if k = 2 then [115, 116, 105, 108, 116, 115] else [114, 117, 110]
def mkX (tp : Nat → Nat) (sz : Nat) (x : Nat × Nat × Nat) (c : Nat) : Bool := mkQ tp sz x.1 x.2.1 c
def isX (tp : Nat → Nat) (sz : Nat) (x : Nat × Nat × Nat) (cs : List Nat) : Bool := isW tp sz x.1 x.2.1 cs
def valX (tp : Nat → Nat) (sz : Nat) (x : Nat × Nat × Nat) : Option Nat := fnd (fun k => isW tp sz x.1 x.2.1 (wVal k)) 4
def partE (tp : Nat → Nat) (sz : Nat) (E : (Nat × Nat × Nat) × List Int32 → (Nat × Nat × Nat) × List Int32) (y : (Nat × Nat × Nat) × List Int32) : (Nat × Nat × Nat) × List Int32 :=
  if y.1.2.1 ≠ 0 then y else if tKd tp sz y.1.1 = 2 then lyY (nI (vNu tp sz 0 9999 y.1)) (pNu tp sz 0 9999 y.1, y.2)
  else if tKd tp sz y.1.1 = 1 then (match valX tp sz y.1 with
    | some v => (stX tp sz y.1, y.2 ++ [-1 - nI v])
    | none => (pWr 3 y.1, y.2))
  else (pMk tp sz 41 (E (pMk tp sz 40 y.1, y.2)).1, (E (pMk tp sz 40 y.1, y.2)).2)
def lpL (tp : Nat → Nat) (sz : Nat) (c : Nat × Nat × Nat → Option Int32) (F : (Nat × Nat × Nat) × List Int32 → (Nat × Nat × Nat) × List Int32) : Nat → (Nat × Nat × Nat) × List Int32 → (Nat × Nat × Nat) × List Int32
  | 0, y => y
  | g + 1, y => match c y.1 with
    | none => y
    | some s => lpL tp sz c F g (lyY s (F (stX tp sz y.1, y.2)))
def cMk (tp : Nat → Nat) (sz c1 c2 : Nat) (s1 s2 : Int32) (x : Nat × Nat × Nat) : Option Int32 := if mkX tp sz x c1 = true then some s1 else if mkX tp sz x c2 = true then some s2 else none
def cWd (tp : Nat → Nat) (sz : Nat) (cs : List Nat) (s : Int32) (x : Nat × Nat × Nat) : Option Int32 := if isX tp sz x cs = true then some s else none
def prodE (tp : Nat → Nat) (sz : Nat) (E : (Nat × Nat × Nat) × List Int32 → (Nat × Nat × Nat) × List Int32) (y : (Nat × Nat × Nat) × List Int32) : (Nat × Nat × Nat) × List Int32 := lpL tp sz (cMk tp sz 42 47 (-22) (-23)) (partE tp sz E) 701 (partE tp sz E y)
def sumE (tp : Nat → Nat) (sz : Nat) (E : (Nat × Nat × Nat) × List Int32 → (Nat × Nat × Nat) × List Int32) (y : (Nat × Nat × Nat) × List Int32) : (Nat × Nat × Nat) × List Int32 := lpL tp sz (cMk tp sz 43 45 (-20) (-21)) (prodE tp sz E) 701 (prodE tp sz E y)
/-- the nots, at most r more: how many, and where -/
def ntL (tp : Nat → Nat) (sz : Nat) : Nat → Nat × Nat × Nat → Nat × (Nat × Nat × Nat)
  | 0, x => if isX tp sz x [110, 111, 116] = true then (1, pWr 2 x) else (0, x)
  | r + 1, x => if isX tp sz x [110, 111, 116] = true then ((ntL tp sz r (stX tp sz x)).1 + 1, (ntL tp sz r (stX tp sz x)).2) else (0, x)
def rpt (s : Int32) : Nat → (Nat × Nat × Nat) × List Int32 → (Nat × Nat × Nat) × List Int32
  | 0, y => y
  | k + 1, y => rpt s k (lyY s y)
def cmpE (tp : Nat → Nat) (sz : Nat) (E : (Nat × Nat × Nat) × List Int32 → (Nat × Nat × Nat) × List Int32) (y : (Nat × Nat × Nat) × List Int32) : (Nat × Nat × Nat) × List Int32 := lpL tp sz (cMk tp sz 60 61 (-24) (-25)) (sumE tp sz E) 1 (sumE tp sz E y)
def notE (tp : Nat → Nat) (sz : Nat) (E : (Nat × Nat × Nat) × List Int32 → (Nat × Nat × Nat) × List Int32) (y : (Nat × Nat × Nat) × List Int32) : (Nat × Nat × Nat) × List Int32 := rpt (-28) (ntL tp sz 6 y.1).1 (cmpE tp sz E ((ntL tp sz 6 y.1).2, y.2))
def andE (tp : Nat → Nat) (sz : Nat) (E : (Nat × Nat × Nat) × List Int32 → (Nat × Nat × Nat) × List Int32) (y : (Nat × Nat × Nat) × List Int32) : (Nat × Nat × Nat) × List Int32 := lpL tp sz (cWd tp sz [97, 110, 100] (-26)) (notE tp sz E) 701 (notE tp sz E y)
def orE (tp : Nat → Nat) (sz : Nat) (E : (Nat × Nat × Nat) × List Int32 → (Nat × Nat × Nat) × List Int32) (y : (Nat × Nat × Nat) × List Int32) : (Nat × Nat × Nat) × List Int32 := lpL tp sz (cWd tp sz [111, 114] (-27)) (andE tp sz E) 701 (andE tp sz E y)
def mayE (tp : Nat → Nat) (sz : Nat) (x : Nat × Nat × Nat) : Bool := decide (tKd tp sz x.1 = 2) || decide (tKd tp sz x.1 = 1) || mkX tp sz x 40
/-- an expression, e more may stand in it -/
def exprE (tp : Nat → Nat) (sz : Nat) : Nat → (Nat × Nat × Nat) × List Int32 → (Nat × Nat × Nat) × List Int32
  | 0, y => if y.1.2.1 ≠ 0 then y else if mayE tp sz y.1 = true then (pWr 2 y.1, y.2) else (pWr 1 y.1, y.2)
  | e + 1, y => if y.1.2.1 ≠ 0 then y else if mayE tp sz y.1 = true then orE tp sz (exprE tp sz e) y else (pWr 1 y.1, y.2)
theorem tEnd_lt {tp : Nat → Nat} {sz b : Nat} (hb : b < sz) : b < tEnd tp sz b := by
  unfold tEnd
  rw [if_neg (by omega)]
  split
  · rename_i h
    rw [scn_go hb h]
    exact (scn_le _ (b + 1) rfl (by omega)).1
  · split
    · rename_i h
      rw [scn_go hb h]
      exact (scn_le _ (b + 1) rfl (by omega)).1
    · omega
theorem nxt_le {tp : Nat → Nat} {sz b : Nat} (hb : b ≤ sz) : b ≤ nxt tp sz b ∧ nxt tp sz b ≤ sz := by
  have h1 := tEnd_le (tp := tp) hb
  have h2 := scn_le (p := fun k => blkQ (tp k)) (sz := sz) _ (tEnd tp sz b) rfl h1.2
  unfold nxt tBeg
  omega
theorem nxt_lt {tp : Nat → Nat} {sz b : Nat} (hb : b ≤ sz) (hk : tKd tp sz b ≠ 0) : b < nxt tp sz b := by
  have h0 := tKd_lt hk
  have h1 := tEnd_lt (tp := tp) h0
  have h3 := tEnd_le (tp := tp) hb
  have h2 := scn_le (p := fun k => blkQ (tp k)) (sz := sz) _ (tEnd tp sz b) rfl h3.2
  unfold nxt tBeg
  omega
theorem mkX_t {tp : Nat → Nat} {sz c : Nat} {x : Nat × Nat × Nat} (h : mkX tp sz x c = true) : x.2.1 = 0 ∧ tKd tp sz x.1 = 3 ∧ tp x.1 = c := by
  unfold mkX mkQ at h
  simp only [Bool.and_eq_true, decide_eq_true_eq] at h
  exact ⟨h.1.1, h.1.2, h.2⟩
theorem isX_t {tp : Nat → Nat} {sz : Nat} {x : Nat × Nat × Nat} {cs : List Nat} (h : isX tp sz x cs = true) : x.2.1 = 0 ∧ tKd tp sz x.1 = 1 := by
  unfold isX isW at h
  simp only [Bool.and_eq_true, decide_eq_true_eq] at h
  exact ⟨h.1.1.1, h.1.1.2⟩
theorem numC_t {tp : Nat → Nat} {sz b lo hi : Nat} (h : numC tp sz b lo hi = 0) : tKd tp sz b = 2 := by
  unfold numC at h
  by_cases e : tKd tp sz b = 2
  · exact e
  · rw [if_pos e] at h; cases h
/-- what is kept by each step of the descent -/
def moE (sz : Nat) (F : (Nat × Nat × Nat) × List Int32 → (Nat × Nat × Nat) × List Int32) : Prop := ∀ y : (Nat × Nat × Nat) × List Int32, y.1.1 ≤ sz → (y.1.2.1 ≠ 0 → F y = y) ∧ y.1.1 ≤ (F y).1.1 ∧ (F y).1.1 ≤ sz ∧ (F y).2.length + y.1.1 ≤ y.2.length + (F y).1.1
/-- a sign stands at x wherever c names one, and no fault -/
def okC (tp : Nat → Nat) (sz : Nat) (c : Nat × Nat × Nat → Option Int32) : Prop := ∀ x s, c x = some s → x.2.1 = 0 ∧ tKd tp sz x.1 ≠ 0
theorem okMk {tp : Nat → Nat} {sz c1 c2 : Nat} {s1 s2 : Int32} : okC tp sz (cMk tp sz c1 c2 s1 s2) := fun x s h => by
  unfold cMk at h
  split at h
  · rename_i e; have := mkX_t e; exact ⟨this.1, by omega⟩
  · split at h
    · rename_i e; have := mkX_t e; exact ⟨this.1, by omega⟩
    · cases h
theorem okWd {tp : Nat → Nat} {sz : Nat} {cs : List Nat} {s1 : Int32} : okC tp sz (cWd tp sz cs s1) := fun x s h => by
  unfold cWd at h
  split at h
  · rename_i e; have := isX_t e; exact ⟨this.1, by omega⟩
  · cases h
theorem pWr_1 (k : Nat) (x : Nat × Nat × Nat) : (pWr k x).1 = x.1 := by unfold pWr; split <;> rfl
theorem pMk_le {tp : Nat → Nat} {sz c : Nat} {x : Nat × Nat × Nat} (h : x.1 ≤ sz) : x.1 ≤ (pMk tp sz c x).1 ∧ (pMk tp sz c x).1 ≤ sz := by
  have := nxt_le (tp := tp) h
  unfold pMk
  split
  · split
    · exact this
    · exact ⟨Nat.le_refl _, h⟩
  · exact ⟨Nat.le_refl _, h⟩
theorem mo_part {tp : Nat → Nat} {sz : Nat} {E : (Nat × Nat × Nat) × List Int32 → (Nat × Nat × Nat) × List Int32} (hE : moE sz E) : moE sz (partE tp sz E) := fun y hy => by
  have hn := nxt_le (tp := tp) hy
  unfold partE
  by_cases e : y.1.2.1 ≠ 0
  · rw [if_pos e]
    exact ⟨fun _ => rfl, Nat.le_refl _, hy, Nat.le_refl _⟩
  · rw [if_neg e]
    have e0 : y.1.2.1 = 0 := by omega
    refine ⟨fun q => absurd q e, ?_⟩
    by_cases k2 : tKd tp sz y.1.1 = 2
    · rw [if_pos k2]
      have hl := nxt_lt hy (by rw [k2]; decide)
      unfold pNu lyY
      rw [if_pos e0]
      by_cases z : numC tp sz y.1.1 0 9999 = 0
      · rw [if_pos z, if_pos rfl]
        refine ⟨hn.1, hn.2, ?_⟩
        show (y.2 ++ [_]).length + _ ≤ _ + nxt tp sz y.1.1
        rw [List.length_append]
        show y.2.length + 1 + _ ≤ _
        omega
      · rw [if_neg z, if_neg z]
        exact ⟨Nat.le_refl _, hy, Nat.le_refl _⟩
    · rw [if_neg k2]
      by_cases k1 : tKd tp sz y.1.1 = 1
      · rw [if_pos k1]
        have hl := nxt_lt hy (by rw [k1]; decide)
        cases valX tp sz y.1 with
        | none =>
          show _ ≤ (pWr 3 y.1).1 ∧ (pWr 3 y.1).1 ≤ sz ∧ _ + _ ≤ _ + (pWr 3 y.1).1
          rw [pWr_1]
          exact ⟨Nat.le_refl _, hy, Nat.le_refl _⟩
        | some v =>
          refine ⟨hn.1, hn.2, ?_⟩
          show (y.2 ++ [_]).length + _ ≤ _ + nxt tp sz y.1.1
          rw [List.length_append]
          show y.2.length + 1 + _ ≤ _
          omega
      · rw [if_neg k1]
        have h1 := pMk_le (tp := tp) (c := 40) hy
        obtain ⟨-, a1, a2, a3⟩ := hE (pMk tp sz 40 y.1, y.2) h1.2
        have h2 := pMk_le (tp := tp) (c := 41) a2
        have a6 : (pMk tp sz 40 y.1).1 ≤ (E (pMk tp sz 40 y.1, y.2)).1.1 := a1
        have h21 := h2.1
        have h11 := h1.1
        refine ⟨by show y.1.1 ≤ (pMk tp sz 41 (E (pMk tp sz 40 y.1, y.2)).1).1; omega, h2.2, ?_⟩
        have a4 : (E (pMk tp sz 40 y.1, y.2)).2.length + (pMk tp sz 40 y.1).1 ≤ y.2.length + (E (pMk tp sz 40 y.1, y.2)).1.1 := a3
        have a5 : y.1.1 ≤ (pMk tp sz 40 y.1).1 := h1.1
        show (E (pMk tp sz 40 y.1, y.2)).2.length + y.1.1 ≤ y.2.length + (pMk tp sz 41 (E (pMk tp sz 40 y.1, y.2)).1).1
        omega
theorem lyY_1 (s : Int32) (y : (Nat × Nat × Nat) × List Int32) : (lyY s y).1 = y.1 := by unfold lyY; split <;> rfl
theorem lyY_l (s : Int32) (y : (Nat × Nat × Nat) × List Int32) : (lyY s y).2.length ≤ y.2.length + 1 := by
  unfold lyY
  split
  · show (y.2 ++ [s]).length ≤ _
    rw [List.length_append]
    exact Nat.le_refl _
  · omega
theorem mo_lp {tp : Nat → Nat} {sz : Nat} {c : Nat × Nat × Nat → Option Int32} {F : (Nat × Nat × Nat) × List Int32 → (Nat × Nat × Nat) × List Int32} (hc : okC tp sz c) (hF : moE sz F) : ∀ g, moE sz (lpL tp sz c F g)
  | 0, y, hy => ⟨fun _ => rfl, Nat.le_refl _, hy, Nat.le_refl _⟩
  | g + 1, y, hy => by
    unfold lpL
    cases h : c y.1 with
    | none => exact ⟨fun _ => rfl, Nat.le_refl _, hy, Nat.le_refl _⟩
    | some s =>
      obtain ⟨e0, ek⟩ := hc _ _ h
      have hl := nxt_lt hy ek
      have hn := nxt_le (tp := tp) hy
      obtain ⟨-, a1, a2, a3⟩ := hF (stX tp sz y.1, y.2) hn.2
      obtain ⟨-, b1, b2, b3⟩ := mo_lp hc hF g (lyY s (F (stX tp sz y.1, y.2))) (by rw [lyY_1]; exact a2)
      have c1 := lyY_l s (F (stX tp sz y.1, y.2))
      rw [lyY_1] at b1 b3
      have a4 : (F (stX tp sz y.1, y.2)).2.length + nxt tp sz y.1.1 ≤ y.2.length + (F (stX tp sz y.1, y.2)).1.1 := a3
      have a5 : nxt tp sz y.1.1 ≤ (F (stX tp sz y.1, y.2)).1.1 := a1
      exact ⟨fun q => absurd e0 q, by show _ ≤ (lpL tp sz c F g (lyY s (F (stX tp sz y.1, y.2)))).1.1; omega, b2, by show (lpL tp sz c F g (lyY s (F (stX tp sz y.1, y.2)))).2.length + _ ≤ _ + (lpL tp sz c F g (lyY s (F (stX tp sz y.1, y.2)))).1.1; omega⟩
theorem mo_comp {sz : Nat} {F G : (Nat × Nat × Nat) × List Int32 → (Nat × Nat × Nat) × List Int32} (hF : moE sz F) (hG : moE sz G) : moE sz (fun y => G (F y)) := fun y hy => by
  obtain ⟨a0, a1, a2, a3⟩ := hF y hy
  obtain ⟨b0, b1, b2, b3⟩ := hG (F y) a2
  refine ⟨fun q => ?_, by show _ ≤ (G (F y)).1.1; omega, b2, by show (G (F y)).2.length + _ ≤ _ + (G (F y)).1.1; omega⟩
  show G (F y) = y
  have e := a0 q
  rw [e] at b0
  rw [e]
  exact b0 q
theorem mo_prod {tp : Nat → Nat} {sz : Nat} {E : (Nat × Nat × Nat) × List Int32 → (Nat × Nat × Nat) × List Int32} (hE : moE sz E) : moE sz (prodE tp sz E) := mo_comp (F := partE tp sz E) (G := lpL tp sz (cMk tp sz 42 47 (-22) (-23)) (partE tp sz E) 701) (mo_part hE) (mo_lp okMk (mo_part hE) 701)
theorem mo_sum {tp : Nat → Nat} {sz : Nat} {E : (Nat × Nat × Nat) × List Int32 → (Nat × Nat × Nat) × List Int32} (hE : moE sz E) : moE sz (sumE tp sz E) := mo_comp (F := prodE tp sz E) (G := lpL tp sz (cMk tp sz 43 45 (-20) (-21)) (prodE tp sz E) 701) (mo_prod hE) (mo_lp okMk (mo_prod hE) 701)
theorem mo_cmp {tp : Nat → Nat} {sz : Nat} {E : (Nat × Nat × Nat) × List Int32 → (Nat × Nat × Nat) × List Int32} (hE : moE sz E) : moE sz (cmpE tp sz E) := mo_comp (F := sumE tp sz E) (G := lpL tp sz (cMk tp sz 60 61 (-24) (-25)) (sumE tp sz E) 1) (mo_sum hE) (mo_lp okMk (mo_sum hE) 1)
theorem rpt_1 (s : Int32) : ∀ k (y : (Nat × Nat × Nat) × List Int32), (rpt s k y).1 = y.1 ∧ (rpt s k y).2.length ≤ y.2.length + k ∧ (y.1.2.1 ≠ 0 → rpt s k y = y)
  | 0, _ => ⟨rfl, Nat.le_refl _, fun _ => rfl⟩
  | k + 1, y => by
    obtain ⟨h1, h2, h3⟩ := rpt_1 s k (lyY s y)
    have h4 := lyY_l s y
    rw [lyY_1] at h1 h3
    refine ⟨h1, by show (rpt s k (lyY s y)).2.length ≤ _; omega, fun q => ?_⟩
    show rpt s k (lyY s y) = y
    rw [h3 q]
    unfold lyY
    rw [if_neg q]
theorem ntL_le {tp : Nat → Nat} {sz : Nat} : ∀ r (x : Nat × Nat × Nat), x.1 ≤ sz → (ntL tp sz r x).2.1 ≤ sz ∧ ((ntL tp sz r x).2.2.1 = 0 → x.1 + (ntL tp sz r x).1 ≤ (ntL tp sz r x).2.1) ∧ x.1 ≤ (ntL tp sz r x).2.1 ∧ (x.2.1 ≠ 0 → ntL tp sz r x = (0, x)) ∧ (ntL tp sz r x).1 ≤ r + 1
  | 0, x, hx => by
    unfold ntL
    by_cases h : isX tp sz x [110, 111, 116] = true
    · rw [if_pos h]
      have e0 := (isX_t h).1
      refine ⟨by show (pWr 2 x).1 ≤ sz; rw [pWr_1]; exact hx, fun q => ?_, by show _ ≤ (pWr 2 x).1; rw [pWr_1]; exact Nat.le_refl _, fun q => absurd e0 q, Nat.le_refl _⟩
      exfalso
      have q2 : (pWr 2 x).2.1 = 0 := q
      unfold pWr at q2
      rw [if_pos e0] at q2
      cases q2
    · rw [if_neg h]
      exact ⟨hx, fun _ => Nat.le_refl _, Nat.le_refl _, fun _ => rfl, Nat.zero_le _⟩
  | r + 1, x, hx => by
    unfold ntL
    by_cases h : isX tp sz x [110, 111, 116] = true
    · rw [if_pos h]
      have e0 := isX_t h
      have hl := nxt_lt hx (by rw [e0.2]; decide)
      obtain ⟨a1, a2, a3, -, a5⟩ := ntL_le (tp := tp) r (stX tp sz x) (nxt_le (tp := tp) hx).2
      have a6 : nxt tp sz x.1 ≤ (ntL tp sz r (stX tp sz x)).2.1 := a3
      refine ⟨a1, fun q => ?_, by show _ ≤ (ntL tp sz r (stX tp sz x)).2.1; omega, fun q => absurd e0.1 q, by show _ + 1 ≤ _; omega⟩
      have a7 : nxt tp sz x.1 + (ntL tp sz r (stX tp sz x)).1 ≤ (ntL tp sz r (stX tp sz x)).2.1 := a2 q
      show x.1 + ((ntL tp sz r (stX tp sz x)).1 + 1) ≤ (ntL tp sz r (stX tp sz x)).2.1
      omega
    · rw [if_neg h]
      exact ⟨hx, fun _ => Nat.le_refl _, Nat.le_refl _, fun _ => rfl, Nat.zero_le _⟩
theorem mo_not {tp : Nat → Nat} {sz : Nat} {E : (Nat × Nat × Nat) × List Int32 → (Nat × Nat × Nat) × List Int32} (hE : moE sz E) : moE sz (notE tp sz E) := fun y hy => by
  obtain ⟨a1, a2, a3, a4, a5⟩ := ntL_le (tp := tp) 6 y.1 hy
  obtain ⟨b0, b1, b2, b3⟩ := mo_cmp hE ((ntL tp sz 6 y.1).2, y.2) a1
  obtain ⟨c1, c2, c3⟩ := rpt_1 (-28) (ntL tp sz 6 y.1).1 (cmpE tp sz E ((ntL tp sz 6 y.1).2, y.2))
  have b1' : (ntL tp sz 6 y.1).2.1 ≤ (cmpE tp sz E ((ntL tp sz 6 y.1).2, y.2)).1.1 := b1
  have b3' : (cmpE tp sz E ((ntL tp sz 6 y.1).2, y.2)).2.length + (ntL tp sz 6 y.1).2.1 ≤ y.2.length + (cmpE tp sz E ((ntL tp sz 6 y.1).2, y.2)).1.1 := b3
  unfold notE
  refine ⟨fun q => ?_, by rw [c1]; omega, by rw [c1]; exact b2, ?_⟩
  · have e := a4 q
    rw [e] at b0 ⊢
    exact b0 q
  · rw [c1]
    by_cases z : (ntL tp sz 6 y.1).2.2.1 = 0
    · have := a2 z
      omega
    · have e := b0 z
      rw [e] at c2 c3 b3' ⊢
      rw [c3 z]
      show y.2.length + _ ≤ _ + (ntL tp sz 6 y.1).2.1
      omega
theorem mo_and {tp : Nat → Nat} {sz : Nat} {E : (Nat × Nat × Nat) × List Int32 → (Nat × Nat × Nat) × List Int32} (hE : moE sz E) : moE sz (andE tp sz E) := mo_comp (F := notE tp sz E) (G := lpL tp sz (cWd tp sz [97, 110, 100] (-26)) (notE tp sz E) 701) (mo_not hE) (mo_lp okWd (mo_not hE) 701)
theorem mo_or {tp : Nat → Nat} {sz : Nat} {E : (Nat × Nat × Nat) × List Int32 → (Nat × Nat × Nat) × List Int32} (hE : moE sz E) : moE sz (orE tp sz E) := mo_comp (F := andE tp sz E) (G := lpL tp sz (cWd tp sz [111, 114] (-27)) (andE tp sz E) 701) (mo_and hE) (mo_lp okWd (mo_and hE) 701)
theorem mo_expr {tp : Nat → Nat} {sz : Nat} : ∀ e, moE sz (exprE tp sz e)
  | 0, y, hy => by
    unfold exprE
    by_cases z : y.1.2.1 ≠ 0
    · rw [if_pos z]; exact ⟨fun _ => rfl, Nat.le_refl _, hy, Nat.le_refl _⟩
    · rw [if_neg z]
      refine ⟨fun q => absurd q z, ?_⟩
      split
      · show _ ≤ (pWr 2 y.1).1 ∧ (pWr 2 y.1).1 ≤ sz ∧ _ + _ ≤ _ + (pWr 2 y.1).1
        rw [pWr_1]; exact ⟨Nat.le_refl _, hy, Nat.le_refl _⟩
      · show _ ≤ (pWr 1 y.1).1 ∧ (pWr 1 y.1).1 ≤ sz ∧ _ + _ ≤ _ + (pWr 1 y.1).1
        rw [pWr_1]; exact ⟨Nat.le_refl _, hy, Nat.le_refl _⟩
  | e + 1, y, hy => by
    unfold exprE
    by_cases z : y.1.2.1 ≠ 0
    · rw [if_pos z]; exact ⟨fun _ => rfl, Nat.le_refl _, hy, Nat.le_refl _⟩
    · rw [if_neg z]
      refine ⟨fun q => absurd q z, ?_⟩
      split
      · exact (mo_or (mo_expr e) y hy).2
      · show _ ≤ (pWr 1 y.1).1 ∧ (pWr 1 y.1).1 ≤ sz ∧ _ + _ ≤ _ + (pWr 1 y.1).1
        rw [pWr_1]; exact ⟨Nat.le_refl _, hy, Nat.le_refl _⟩
