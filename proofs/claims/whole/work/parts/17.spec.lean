/-! WHAT IS MEANT: the water, the quicksand, who may be where, how soon one comes over; in plain numbers. Both sides are held against these. -/
def usual (t : Nat) : Nat := if 6 < t / 4 % 12 then 12 - t / 4 % 12 else t / 4 % 12
def wop (s x y : Int32) : Int32 := if s = -20 then x + y else if s = -21 then x - y else if s = -22 then x * y else if s = -23 then (if y = 0 then 0 else x / y) else if s = -24 then (if x < y then 1 else 0) else if s = -25 then (if x = y then 1 else 0) else if s = -26 then (if x ≠ 0 ∧ y ≠ 0 then 1 else 0) else (if x ≠ 0 ∨ y ≠ 0 then 1 else 0)
def wenv (day tick : Nat) (wind : Int32) (s : Int32) : Int32 := if 0 ≤ s then s else if s = -1 then nI (tick / 4) else if s = -2 then nI tick else if s = -3 then nI day else wind
def wst (day tick : Nat) (wind : Int32) (stk : List Int32) (s : Int32) : List Int32 :=
  if -20 < s then wenv day tick wind s :: stk else if s = -28 then (match stk with
    | x :: r => (if x = 0 then 1 else 0) :: r
    | [] => []) else (match stk with
    | y :: x :: r => wop s x y :: r
    | r => r)
def wrun (day tick : Nat) (wind : Int32) (code : Nat → Int32) : Nat → List Int32
  | 0 => []
  | k + 1 => wst day tick wind (wrun day tick wind code k) (code k)
def wdep (code : Nat → Int32) : Nat → Nat
  | 0 => 0
  | k + 1 => if -20 < code k then wdep code k + 1 else if code k = -28 then wdep code k else wdep code k - 1
/-- a rule that can be reckoned -/
def wok (code : Nat → Int32) (len : Nat) : Prop := ∀ k, k < len → if -20 < code k then wdep code k < 64 ∧ (-4 : Int32) ≤ code k else if code k = -28 then 1 ≤ wdep code k else 2 ≤ wdep code k
def wclamp (x : Int32) : Nat := if x < 0 then 0 else if 20 < x then 20 else x.toNatClampNeg
def wlev (code : Nat → Int32) (len : Nat) (day tick : Nat) (wind : Int32) : Nat := if len = 0 then usual tick else wclamp ((wrun day tick wind code len).getLastD 0)
theorem wrun_len {code : Nat → Int32} {len : Nat} (h : wok code len) (day tick : Nat) (wind : Int32) : ∀ k, k ≤ len → (wrun day tick wind code k).length = wdep code k
  | 0, _ => rfl
  | k + 1, hk => by
    have ih := wrun_len h day tick wind k (by omega)
    have hh := h k (by omega)
    unfold wrun wdep wst
    by_cases h1 : -20 < code k
    · simp only [h1, if_true, List.length_cons, ih]
    · simp only [h1, if_false] at hh ⊢
      by_cases h2 : code k = -28
      · simp only [h2, if_true] at hh ⊢
        cases hr : wrun day tick wind code k with
        | nil => rw [hr] at ih; simp at ih; omega
        | cons x r => rw [hr] at ih; simpa using ih
      · simp only [h2, if_false] at hh ⊢
        cases hr : wrun day tick wind code k with
        | nil => rw [hr] at ih; simp at ih; omega
        | cons x r =>
          cases r with
          | nil => rw [hr] at ih; simp at ih; omega
          | cons y r => rw [hr] at ih; simp at ih ⊢; omega
theorem wclamp_le (x : Int32) : wclamp x ≤ 20 := by
  unfold wclamp
  split
  · omega
  · split
    · omega
    · rename_i h1 h2
      have h0 : (0 : Int32).toInt = 0 := by decide
      have h20 : (20 : Int32).toInt = 20 := by decide
      rw [Int32.lt_iff_toInt_lt] at h1 h2
      have : x.toNatClampNeg = x.toInt.toNat := rfl
      omega
theorem usual_le (t : Nat) : usual t ≤ 6 := by
  unfold usual
  have : t / 4 % 12 < 12 := Nat.mod_lt _ (by omega)
  split <;> omega
theorem wlev_le (code : Nat → Int32) (len day tick : Nat) (wind : Int32) : wlev code len day tick wind ≤ 20 := by
  unfold wlev
  split
  · have := usual_le tick; omega
  · exact wclamp_le _
