/-! more of what is meant: remainders, where quicksand lies, a rule's stack -/
theorem bmod_in {z : Int} (h1 : -2147483648 ≤ z) (h2 : z < 2147483648) : z.bmod (2 ^ 32) = z := by
  rw [Int.bmod_def]
  omega
theorem irem_toInt (v : Int32) {n : Nat} (h0 : 0 < n) (hn : n < 2 ^ 31) : (v - v / nI n * nI n).toInt = v.toInt.tmod n := by
  have hne : nI n ≠ -1 := by
    intro q
    have q2 := congrArg Int32.toInt q
    rw [nI_toInt hn] at q2
    have : (-1 : Int32).toInt = -1 := by decide
    omega
  have e1 : (v / nI n).toInt = v.toInt.tdiv n := by rw [Int32.toInt_div_of_ne_right _ _ hne, nI_toInt hn]
  rw [Int32.toInt_sub, Int32.toInt_mul, e1, nI_toInt hn]
  have e2 := Int.tmod_def v.toInt n
  have e3 : v.toInt.tdiv n * n = v.toInt - v.toInt.tmod n := by rw [e2, Int.mul_comm]; omega
  rw [e3]
  have b1 := Int32.le_toInt v
  have b2 := Int32.toInt_lt v
  have b3 : v.toInt.tmod n < n := Int.tmod_lt_of_pos _ (by omega)
  have b4 : -(n : Int) < v.toInt.tmod n := by
    have q1 := Int.natAbs_tmod v.toInt n
    have q2 := Nat.mod_lt v.toInt.natAbs (y := (n : Int).natAbs) (by omega)
    omega
  have b5 : (v.toInt - v.toInt.tmod n).natAbs ≤ v.toInt.natAbs := by
    rw [← e3, Int.natAbs_mul, Int.natAbs_tdiv]
    exact Nat.div_mul_le_self _ _
  rw [bmod_in (z := v.toInt - v.toInt.tmod n) (by omega) (by omega), bmod_in (by omega) (by omega)]
  omega
def rmod (v : Int) (n : Nat) : Nat := (v % (n : Int)).toNat
theorem rmod_lt (v : Int) {n : Nat} (h : 0 < n) : rmod v n < n := by
  unfold rmod
  have := Int.emod_lt_of_pos v (b := (n : Int)) (by omega)
  have := Int.emod_nonneg v (b := (n : Int)) (by omega)
  omega
theorem round_eq (v : Int32) {n : Nat} (h0 : 0 < n) (hn : n ≤ 9) : (v - v / nI n * nI n + nI n) - (v - v / nI n * nI n + nI n) / nI n * nI n = nI (rmod v.toInt n) := by
  apply Int32.toInt_inj.mp
  have e1 := irem_toInt v h0 (by omega)
  have b3 : v.toInt.tmod n < n := Int.tmod_lt_of_pos _ (by omega)
  have b4 : -(n : Int) < v.toInt.tmod n := by
    have q1 := Int.natAbs_tmod v.toInt n
    have q2 := Nat.mod_lt v.toInt.natAbs (y := (n : Int).natAbs) (by omega)
    omega
  rw [irem_toInt _ h0 (by omega), Int32.toInt_add, e1, nI_toInt (by omega), bmod_in (by omega) (by omega)]
  have hl := rmod_lt v.toInt h0
  rw [nI_toInt (by omega)]
  unfold rmod
  have hnn := Int.emod_nonneg v.toInt (b := (n : Int)) (by omega)
  rw [Int.toNat_of_nonneg hnn, Int.tmod_eq_emod_of_nonneg (by omega)]
  have e2 := Int.tmod_def v.toInt n
  rw [show v.toInt.tmod n + n = v.toInt + n * (1 - v.toInt.tdiv n) by rw [e2, Int.mul_sub, Int.mul_one]; omega]
  exact Int.add_mul_emod_self_left _ _ _
theorem lin_toInt {a d : Nat} {x : Int32} (ha : a < 1000) (hd : d ≤ 40) (h1 : -2 ≤ x.toInt) (h2 : x.toInt ≤ 2) : (nI a + x * nI d).toInt = (a : Int) + x.toInt * d := by
  have e : x.toInt = -2 ∨ x.toInt = -1 ∨ x.toInt = 0 ∨ x.toInt = 1 ∨ x.toInt = 2 := by omega
  rw [Int32.toInt_add, Int32.toInt_mul, nI_toInt (by omega), nI_toInt (by omega)]
  have hb : -80 ≤ x.toInt * d ∧ x.toInt * d ≤ 80 := by rcases e with e | e | e | e | e <;> rw [e] <;> omega
  rw [bmod_in (z := x.toInt * d) (by omega) (by omega), bmod_in (by omega) (by omega)]
def qpos (W H a day : Nat) (dx dy : Int) : Nat := W * rmod (((a / W : Nat) : Int) + dy * day) H + rmod (((a % W : Nat) : Int) + dx * day) W
theorem qpos_lt {W H : Nat} (a day : Nat) (dx dy : Int) (hw : 0 < W) (hh : 0 < H) : qpos W H a day dx dy < W * H := by
  unfold qpos
  have h1 := rmod_lt (((a / W : Nat) : Int) + dy * day) hh
  have h2 := rmod_lt (((a % W : Nat) : Int) + dx * day) hw
  have h3 : W * (rmod (((a / W : Nat) : Int) + dy * day) H + 1) ≤ W * H := Nat.mul_le_mul_left W h1
  rw [Nat.mul_add, Nat.mul_one] at h3
  omega
/-- is a cell quicksand, by the first k -/
def qOn (W H : Nat) (qa : Nat → Nat) (day : Nat) (dx dy : Int) : Nat → Nat → Bool
  | 0, _ => false
  | k + 1, c => qOn W H qa day dx dy k c || decide (qpos W H (qa k) day dx dy = c)
/-- the stack in an array, the top first -/
def stk (f : Nat → Int32) : List Int32 → Prop
  | [] => True
  | x :: r => f r.length = x ∧ stk f r
theorem stk_up {J : Nat → Nat → Int32} {a k : Nat} {v : Int32} : ∀ {s : List Int32}, stk (J a) s → s.length ≤ k → stk (upI J a k v a) s
  | [], _, _ => trivial
  | x :: r, h, hk => ⟨by
      have : r.length ≠ k := by simp at hk; omega
      rw [show upI J a k v a r.length = J a r.length by simp [upI, this]]; exact h.1, stk_up h.2 (by simp at hk; omega)⟩
theorem stk_0 {f : Nat → Int32} : ∀ {s : List Int32}, stk f s → s ≠ [] → f 0 = s.getLastD 0
  | [], _, h => absurd rfl h
  | [x], h, _ => h.1
  | x :: y :: r, h, _ => by
      have := stk_0 (s := y :: r) h.2 (by simp)
      rw [this]; rfl
theorem upI_s {J : Nat → Nat → Int32} {a k : Nat} {v : Int32} : upI J a k v a k = v := by simp [upI]
theorem upI_j {J : Nat → Nat → Int32} {a k j : Nat} {v : Int32} (h : j ≠ k) : upI J a k v a j = J a j := by simp [upI, h]
theorem wenv_ix {day tick : Nat} {wind s : Int32} (h1 : (-4 : Int32) ≤ s) (h2 : s < 0) : ∃ i : Nat, i < 4 ∧ -1 - s = nI i ∧ wenv day tick wind s = (if i = 0 then nI (tick / 4) else if i = 1 then nI tick else if i = 2 then nI day else wind) := by
  have e : s = -1 ∨ s = -2 ∨ s = -3 ∨ s = -4 := by
    rw [Int32.le_iff_toInt_le] at h1
    rw [Int32.lt_iff_toInt_lt] at h2
    have e4 : (-4 : Int32).toInt = -4 := by decide
    have e0 : (0 : Int32).toInt = 0 := by decide
    have : s.toInt = -1 ∨ s.toInt = -2 ∨ s.toInt = -3 ∨ s.toInt = -4 := by omega
    rcases this with e | e | e | e
    · exact Or.inl (Int32.toInt_inj.mp e)
    · exact Or.inr (Or.inl (Int32.toInt_inj.mp e))
    · exact Or.inr (Or.inr (Or.inl (Int32.toInt_inj.mp e)))
    · exact Or.inr (Or.inr (Or.inr (Int32.toInt_inj.mp e)))
  rcases e with e | e | e | e <;> subst e
  · exact ⟨0, by omega, by decide, rfl⟩
  · exact ⟨1, by omega, by decide, rfl⟩
  · exact ⟨2, by omega, by decide, rfl⟩
  · exact ⟨3, by omega, by decide, rfl⟩
theorem wclamp_eq (x : Int32) : (if (0 : Int32) < (if x < 20 then x else 20) then (if x < 20 then x else 20) else 0) = nI (wclamp x) := by
  apply Int32.toInt_inj.mp
  have hl := wclamp_le x
  rw [nI_toInt (by omega)]
  unfold wclamp
  have h0 : (0 : Int32).toInt = 0 := by decide
  have h20 : (20 : Int32).toInt = 20 := by decide
  have hc : x.toNatClampNeg = x.toInt.toNat := rfl
  simp only [Int32.lt_iff_toInt_lt, h0, h20]
  by_cases a1 : x.toInt < 20
  · simp only [a1, if_true]
    by_cases a2 : 0 < x.toInt
    · have a3 : ¬ x.toInt < 0 := by omega
      have a4 : ¬ 20 < x.toInt := by omega
      simp only [a2, a3, a4, if_true, if_false]
      omega
    · simp only [a2, if_false, h0]
      by_cases a3 : x.toInt < 0
      · simp [a3]
      · have a4 : ¬ 20 < x.toInt := by omega
        simp only [a3, a4, if_false]
        omega
  · have a3 : ¬ x.toInt < 0 := by omega
    simp only [a1, a3, if_false, h20]
    by_cases a4 : 20 < x.toInt
    · simp [a4, h20]
    · simp only [a4, if_false]
      have : x.toInt = 20 := by omega
      rw [hc, this]
      decide
