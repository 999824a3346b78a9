/-! plain facts: loops, fills -/
theorem jdown (h : Nat) {P : Nat → Prop} (hs : ∀ k, k ≤ h → (k < h → P (k + 1)) → P k) : ∀ k, k ≤ h → P k := by
  have key : ∀ m k, k + m = h → P k := by
    intro m
    induction m with
    | zero => intro k hk; exact hs k (by omega) (fun q => absurd q (by omega))
    | succ m ih => intro k hk; exact hs k (by omega) (fun _ => ih (k + 1) (by omega))
  exact fun k hk => key (h - k) k (by omega)
/-- a loop that counts down: P k from P of less -/
theorem jdn {P : Nat → Prop} (hs : ∀ k, (∀ j, j < k → P j) → P k) : ∀ k, P k := fun k => Nat.strongRecOn k (fun k ih => hs k ih)
/-- the first k places of array a are f's -/
def fl (I : Nat → Nat → Int32) (a : Nat) (f : Nat → Int32) (k : Nat) : Nat → Nat → Int32 := fun b j => if b = a ∧ j < k then f j else I b j
theorem fl_0 (I : Nat → Nat → Int32) (a : Nat) (f : Nat → Int32) : fl I a f 0 = I := by
  funext b j; simp [fl]
theorem fl_s (I : Nat → Nat → Int32) (a : Nat) (f : Nat → Int32) (k : Nat) : upI (fl I a f k) a k (f k) = fl I a f (k + 1) := by
  funext b j
  unfold upI fl
  by_cases h1 : b = a
  · by_cases h2 : j = k
    · simp [h1, h2]
    · by_cases h3 : j < k
      · simp [h1, h2, h3, Nat.lt_succ_of_lt h3]
      · have : ¬ j < k + 1 := by omega
        simp [h1, h2, h3, this]
  · simp [h1]
theorem fl_in {I : Nat → Nat → Int32} {a : Nat} {f : Nat → Int32} {k j : Nat} (h : j < k) : fl I a f k a j = f j := by simp [fl, h]
theorem fl_out {I : Nat → Nat → Int32} {a : Nat} {f : Nat → Int32} {k j : Nat} (h : k ≤ j) : fl I a f k a j = I a j := by
  have : ¬ j < k := by omega
  simp [fl, this]
theorem fl_ne {I : Nat → Nat → Int32} {a b : Nat} {f : Nat → Int32} {k j : Nat} (h : b ≠ a) : fl I a f k b j = I b j := by simp [fl, h]
def flL (L : Nat → Nat → Int64) (a : Nat) (f : Nat → Int64) (k : Nat) : Nat → Nat → Int64 := fun b j => if b = a ∧ j < k then f j else L b j
theorem flL_0 (L : Nat → Nat → Int64) (a : Nat) (f : Nat → Int64) : flL L a f 0 = L := by
  funext b j; simp [flL]
theorem flL_s (L : Nat → Nat → Int64) (a : Nat) (f : Nat → Int64) (k : Nat) : upL (flL L a f k) a k (f k) = flL L a f (k + 1) := by
  funext b j
  unfold upL flL
  by_cases h1 : b = a
  · by_cases h2 : j = k
    · simp [h1, h2]
    · by_cases h3 : j < k
      · simp [h1, h2, h3, Nat.lt_succ_of_lt h3]
      · have : ¬ j < k + 1 := by omega
        simp [h1, h2, h3, this]
  · simp [h1]
theorem flL_in {L : Nat → Nat → Int64} {a : Nat} {f : Nat → Int64} {k j : Nat} (h : j < k) : flL L a f k a j = f j := by simp [flL, h]
theorem flL_out {L : Nat → Nat → Int64} {a : Nat} {f : Nat → Int64} {k j : Nat} (h : k ≤ j) : flL L a f k a j = L a j := by
  have : ¬ j < k := by omega
  simp [flL, this]
theorem flL_ne {L : Nat → Nat → Int64} {a b : Nat} {f : Nat → Int64} {k j : Nat} (h : b ≠ a) : flL L a f k b j = L b j := by simp [flL, h]
theorem nlt_of {a b : Nat} (ha : a < 2 ^ 31) (hb : b < 2 ^ 31) (h : ¬ nI b ≤ nI a) : a < b := by
  rcases Nat.lt_or_ge a b with q | q
  · exact q
  · exact absurd (nI_le q ha) h
theorem nge_of {a b : Nat} (ha : a < 2 ^ 31) (hb : b < 2 ^ 31) (h : nI b ≤ nI a) : b ≤ a := (nI_leI hb ha).mp h
