/-! what is meant: the way that is taken -/
def nx0 (m : Nat → Nat → Bool) (s : Nat → Nat → Nat) (c t goal : Nat) : Option Nat := if t + 1 < 96 ∧ m c (t + 1) = true ∧ s c (t + 1) = goal then some c else none
def oltB (q : Nat) (b : Option Nat) : Bool := match b with
  | none => true
  | some x => decide (q < x)
def nxS (W H pace : Nat) (m : Nat → Nat → Bool) (s : Nat → Nat → Nat) (c t goal w : Nat) (b : Option Nat) : Option Nat := match nbr W H c w with
  | some q => if stp pace m q t = true ∧ s q (t + pace) = goal ∧ oltB q b = true then some q else b
  | none => b
def nxU (W H pace : Nat) (m : Nat → Nat → Bool) (s : Nat → Nat → Nat) (c t goal : Nat) : Nat → Option Nat
  | 0 => nx0 m s c t goal
  | w + 1 => nxS W H pace m s c t goal w (nxU W H pace m s c t goal w)
def wW (W H pace : Nat) (m : Nat → Nat → Bool) (s : Nat → Nat → Nat) (goal tick home : Nat) : Nat → Nat × Nat
  | 0 => (home, tick)
  | k + 1 => if (wW W H pace m s goal tick home k).2 < tick + k + 1 then
      ((nxU W H pace m s (wW W H pace m s goal tick home k).1 (tick + k) goal 4).getD 0, if (nxU W H pace m s (wW W H pace m s goal tick home k).1 (tick + k) goal 4).getD 0 = (wW W H pace m s goal tick home k).1 then tick + k + 1 else tick + k + pace)
    else wW W H pace m s goal tick home k
theorem nbr_ne {W H c w : Nat} (hW : 3 ≤ W) : nbr W H c w ≠ some c := by
  intro h
  unfold nbr at h
  by_cases h0 : w = 0
  · rw [if_pos h0] at h
    split at h
    · have := Option.some.inj h; omega
    · cases h
  · rw [if_neg h0] at h
    by_cases h1 : w = 1
    · rw [if_pos h1] at h
      split at h
      · have := Option.some.inj h; omega
      · cases h
    · rw [if_neg h1] at h
      by_cases h2 : w = 2
      · rw [if_pos h2] at h
        split at h
        · have := Option.some.inj h; omega
        · cases h
      · rw [if_neg h2] at h
        split at h
        · cases h
        · rename_i h3
          have e := Option.some.inj h
          have : c = 0 := by omega
          subst this
          simp at h3
theorem nx_some {W H pace : Nat} {m : Nat → Nat → Bool} {s : Nat → Nat → Nat} {c t goal : Nat} (hg : goal ≠ 1000) : ∀ w, sUp W H pace m s c t w = goal → ∃ q, nxU W H pace m s c t goal w = some q := by
  intro w
  induction w with
  | zero =>
    intro h
    change sStay m s c t = goal at h
    unfold sStay at h
    split at h
    · rename_i h1
      exact ⟨c, by show nx0 m s c t goal = _; unfold nx0; rw [if_pos ⟨h1.1, h1.2, h⟩]⟩
    · exact absurd h.symm hg
  | succ w ih =>
    intro h
    change sMin W H pace m s c t w _ = goal at h
    show ∃ q, nxS W H pace m s c t goal w _ = some q
    unfold sMin at h
    unfold nxS
    cases hn : nbr W H c w with
    | none => simp only [hn] at h ⊢; exact ih h
    | some q =>
      simp only [hn] at h ⊢
      by_cases h1 : stp pace m q t = true ∧ s q (t + pace) = goal ∧ oltB q (nxU W H pace m s c t goal w) = true
      · rw [if_pos h1]; exact ⟨q, rfl⟩
      · rw [if_neg h1]
        cases hb : nxU W H pace m s c t goal w with
        | some x => exact ⟨x, rfl⟩
        | none =>
          exfalso
          by_cases h2 : stp pace m q t = true
          · rw [if_pos h2] at h
            split at h
            · exact h1 ⟨h2, h, by rw [hb]; rfl⟩
            · obtain ⟨x, hx⟩ := ih h
              rw [hb] at hx; cases hx
          · rw [if_neg h2] at h
            obtain ⟨x, hx⟩ := ih h
            rw [hb] at hx; cases hx
theorem nx_prop {W H pace : Nat} (hW : 3 ≤ W) (hH : 1 ≤ H) {m : Nat → Nat → Bool} {s : Nat → Nat → Nat} {c t goal : Nat} (hc : c < W * H) : ∀ w q, nxU W H pace m s c t goal w = some q → q < W * H ∧ ((q = c ∧ t + 1 < 96 ∧ s c (t + 1) = goal) ∨ (q ≠ c ∧ stp pace m q t = true ∧ s q (t + pace) = goal)) := by
  intro w
  induction w with
  | zero =>
    intro q h
    change nx0 m s c t goal = _ at h
    unfold nx0 at h
    split at h
    · rename_i h1
      cases h
      exact ⟨hc, Or.inl ⟨rfl, h1.1, h1.2.2⟩⟩
    · cases h
  | succ w ih =>
    intro q h
    change nxS W H pace m s c t goal w _ = _ at h
    unfold nxS at h
    cases hn : nbr W H c w with
    | none => simp only [hn] at h; exact ih q h
    | some x =>
      simp only [hn] at h
      split at h
      · rename_i h1
        cases h
        exact ⟨nbr_lt hW hH hc hn, Or.inr ⟨fun e => nbr_ne hW (e ▸ hn), h1.1, h1.2.1⟩⟩
      · exact ih q h
theorem wW_run {W H pace : Nat} (hp : 1 ≤ pace) {m : Nat → Nat → Bool} {s : Nat → Nat → Nat} {goal tick home k c q : Nat} (h1 : (wW W H pace m s goal tick home k).1 = c) (h2 : (wW W H pace m s goal tick home k).2 ≤ tick + k) (hq : nxU W H pace m s c (tick + k) goal 4 = some q) : ∀ j, 1 ≤ j → j ≤ (if q = c then 1 else pace) → wW W H pace m s goal tick home (k + j) = (q, tick + k + (if q = c then 1 else pace)) := by
  intro j
  induction j with
  | zero => intro h; omega
  | succ j ih =>
    intro _ hj
    by_cases hz : j = 0
    · subst hz
      show (if _ < _ then _ else _) = _
      rw [Nat.add_zero, if_pos (by omega), h1, hq]
      simp only [Option.getD_some]
      by_cases e : q = c
      · rw [if_pos e, if_pos e]
      · rw [if_neg e, if_neg e]
    · have e := ih (by omega) (by omega)
      show (if (wW W H pace m s goal tick home (k + j)).2 < tick + (k + j) + 1 then _ else wW W H pace m s goal tick home (k + j)) = _
      rw [if_neg (by rw [e]; show ¬ (tick + k + (if q = c then 1 else pace)) < _; omega)]
      exact e
theorem sUp_ge {W H pace : Nat} (hp : 1 ≤ pace) {m : Nat → Nat → Bool} {s : Nat → Nat → Nat} {c t : Nat} (ht : t < 96) (hs : ∀ q j, t < j → j < 96 → j ≤ s q j) : ∀ w, t + 1 ≤ sUp W H pace m s c t w := by
  intro w
  induction w with
  | zero =>
    show t + 1 ≤ sStay m s c t
    unfold sStay
    split
    · rename_i h; exact hs _ _ (by omega) h.1
    · omega
  | succ w ih =>
    show t + 1 ≤ sMin W H pace m s c t w _
    unfold sMin
    split
    · split
      · rename_i h
        have h3 : t + pace < 96 := by simp [stp] at h; exact h.1
        split
        · have := hs ‹Nat› (t + pace) (by omega) h3
          omega
        · exact ih
      · exact ih
    · exact ih
theorem sn_ge {W H pace : Nat} (hp : 1 ≤ pace) {m : Nat → Nat → Bool} : ∀ k c t, t < 96 → 96 - t = k → t ≤ sn W H pace m c t := by
  intro k
  induction k using Nat.strongRecOn with
  | _ k ih =>
    intro c t ht hk
    rw [sn_eq hp ht]
    unfold sOne
    split
    · omega
    · have := sUp_ge (W := W) (H := H) (pace := pace) hp (m := m) (s := sn W H pace m) (c := c) ht (fun q j h1 h2 => ih (96 - j) (by omega) q j h2 rfl) 4
      omega
theorem sn_gt {W H pace : Nat} (hp : 1 ≤ pace) {m : Nat → Nat → Bool} {c t : Nat} (ht : t < 96) (hc : ¬ c % W = W - 1) : t + 1 ≤ sn W H pace m c t := by
  rw [sn_eq hp ht]
  unfold sOne
  rw [if_neg hc]
  exact sUp_ge hp ht (fun q j h1 h2 => sn_ge hp _ q j h2 rfl) 4
theorem sn_isle {W H pace : Nat} (hp : 1 ≤ pace) {m : Nat → Nat → Bool} {c t : Nat} (ht : t < 96) (hc : c % W = W - 1) : sn W H pace m c t = t := by
  rw [sn_eq hp ht]
  unfold sOne
  rw [if_pos hc]
/-- whoever comes, comes by the last tick -/
theorem sn_last {W H pace : Nat} (hp : 1 ≤ pace) {m : Nat → Nat → Bool} : ∀ k c t, t < 96 → 96 - t = k → sn W H pace m c t ≠ 1000 → sn W H pace m c t < 96 := by
  intro k
  induction k using Nat.strongRecOn with
  | _ k ih =>
    intro c t ht hk hne
    have hs : ∀ q j, t < j → j < 96 → sn W H pace m q j = 1000 ∨ sn W H pace m q j < 96 := fun q j h1 h2 => by
      by_cases e : sn W H pace m q j = 1000
      · exact Or.inl e
      · exact Or.inr (ih (96 - j) (by omega) q j h2 rfl e)
    have hu : ∀ w, sUp W H pace m (sn W H pace m) c t w = 1000 ∨ sUp W H pace m (sn W H pace m) c t w < 96 := by
      intro w
      induction w with
      | zero =>
        show sStay m _ c t = 1000 ∨ sStay m _ c t < 96
        unfold sStay
        split
        · rename_i h; exact hs _ _ (by omega) h.1
        · exact Or.inl rfl
      | succ w ihw =>
        show sMin W H pace m _ c t w _ = 1000 ∨ sMin W H pace m _ c t w _ < 96
        unfold sMin
        split
        · split
          · rename_i h
            have h3 : t + pace < 96 := by simp [stp] at h; exact h.1
            split
            · exact hs _ _ (by omega) h3
            · exact ihw
          · exact ihw
        · exact ihw
    rw [sn_eq hp ht] at hne ⊢
    unfold sOne at hne ⊢
    split
    · exact ht
    · rename_i h
      rw [if_neg h] at hne
      rcases hu 4 with e | e
      · exact absurd e hne
      · exact e
