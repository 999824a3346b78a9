/-! THE CLASS: how its island stands for what is told (T) -/
theorem bt_bset (f : Nat → Bool) : ∀ n, n ≤ 64 → ∀ c, bt (bset f n) c = (decide (c < n) && f c)
  | 0, _, c => by rw [bset, bt_0, decide_eq_false (by omega)]; rfl
  | n + 1, hn, c => by
    have ih := bt_bset f n (by omega) c
    rw [bset]
    by_cases h : f n = true
    · rw [if_pos h, bt_or, ih]
      unfold sh1
      rw [bt_sh1 (by omega)]
      by_cases z : c = n
      · rw [z, h, decide_eq_true rfl, decide_eq_true (Nat.lt_succ_self n)]; simp
      · rw [decide_eq_false z, Bool.or_false]
        by_cases z2 : c < n
        · rw [decide_eq_true z2, decide_eq_true (show c < n + 1 by omega)]
        · rw [decide_eq_false z2, decide_eq_false (show ¬ c < n + 1 by omega)]
    · rw [if_neg h, ih]
      by_cases z : c = n
      · rw [z, Bool.eq_false_iff.mpr h, Bool.and_false, Bool.and_false]
      · by_cases z2 : c < n
        · rw [decide_eq_true z2, decide_eq_true (show c < n + 1 by omega)]
        · rw [decide_eq_false z2, decide_eq_false (show ¬ c < n + 1 by omega)]
def bs (f : Nat → Bool) : Int64 := bset f 64
theorem bt_bs {f : Nat → Bool} {c : Nat} (h : c < 64) : bt (bs f) c = f c := by unfold bs; rw [bt_bset f 64 (Nat.le_refl _), decide_eq_true h, Bool.true_and]
theorem bs_of {x : Int64} {f : Nat → Bool} (h : ∀ c, c < 64 → bt x c = f c) : x = bs f := bt_ext (fun c hc => by rw [h c hc, bt_bs hc])
theorem bs_c {f g : Nat → Bool} (h : ∀ c, c < 64 → f c = g c) : bs f = bs g := bs_of (fun c hc => by rw [bt_bs hc, h c hc])
theorem bs_or (f g : Nat → Bool) : bs f ||| bs g = bs (fun c => f c || g c) := bs_of (fun c hc => by rw [bt_or, bt_bs hc, bt_bs hc])
theorem bs_and (f g : Nat → Bool) : bs f &&& bs g = bs (fun c => f c && g c) := bs_of (fun c hc => by rw [bt_and, bt_bs hc, bt_bs hc])
theorem bs_not (f : Nat → Bool) : bs f ^^^ (-1) = bs (fun c => !f c) := bs_of (fun c hc => by rw [bt_not hc, bt_bs hc])
theorem bs_0 : (0 : Int64) = bs (fun _ => false) := bs_of (fun c _ => bt_0 c)
theorem bs_1 {k : Nat} (h : k < 64) : (1 : Int64) <<< ((nI k).toInt64 &&& 63) = bs (fun c => decide (c = k)) := bs_of (fun c _ => bt_sh1 h c)
theorem bs_ne {f : Nat → Bool} : bs f ≠ 0 ↔ ∃ c, c < 64 ∧ f c = true := by
  rw [bt_ne0]
  constructor
  · rintro ⟨c, hc, h⟩; exact ⟨c, hc, by rw [bt_bs hc] at h; exact h⟩
  · rintro ⟨c, hc, h⟩; exact ⟨c, hc, by rw [bt_bs hc]; exact h⟩
theorem bs_shl {f : Nat → Bool} {k : Nat} (hk : k < 64) : bs f <<< ((nI k).toInt64 &&& 63) = bs (fun c => decide (k ≤ c) && f (c - k)) := bs_of (fun c hc => by
  rw [bt_shl hk, bt_bs (by omega)]
  by_cases h : k ≤ c
  · rw [decide_eq_true h, decide_eq_true (⟨h, hc⟩ : k ≤ c ∧ c < 64)]
  · rw [decide_eq_false h, decide_eq_false (fun q : k ≤ c ∧ c < 64 => h q.1)])
theorem bs_shr {f : Nat → Bool} {k : Nat} (hk : k < 64) : ((bs f).toUInt64 >>> ((nI k).toInt64.toUInt64 &&& Int64.toUInt64 63)).toInt64 = bs (fun c => decide (k + c < 64) && f (k + c)) := bs_of (fun c hc => by
  rw [bt_shr hk]
  by_cases h : k + c < 64
  · rw [bt_bs h, decide_eq_true h, Bool.true_and]
  · rw [bt_ge (by omega), decide_eq_false h, Bool.false_and])
/-- the sands at s -/
def CSn (I : Nat → Nat → Int32) (L : Nat → Nat → Int64) (s : Nat) (T : Nat → Nat → Int32) (W H : Nat) : Prop :=
  (I s 0 = nI W ∧ I s 1 = nI H) ∧ (∀ c, c < W * H → I (s + 1) c = T 1073 c) ∧ (I s 7 = T 1072 4 ∧ ∀ k, k < cN (T 1072 4) → I (s + 2) k = T 1075 k) ∧ (I s 9 = T 1072 5 ∧ I s 10 = T 1072 6) ∧
  (L s 4 = bs (fun c => decide (c < W * H ∧ T 1074 c = 1)) ∧ L s 5 = bs (fun c => decide (c < W * H ∧ T 1074 c = 2))) ∧
  (L s 11 = bs (fun c => decide (c < W * H)) ∧ L s 12 = bs (fun c => decide (c < W * H ∧ c % W = 0)) ∧ L s 13 = bs (fun c => decide (c < W * H ∧ c % W = W - 1))) ∧
  ∀ k, k < 10 → L (s + 3) k = bs (fun c => decide (c < W * H ∧ k ≤ cN (T 1073 c)))
/-- the class's sign for one of the reference's -/
def opc (s : Int32) : Int32 := if s = -27 then -5 else if s = -26 then -6 else if s = -28 then -7 else if s = -24 then -8 else if s = -25 then -9 else if s = -20 then -10 else if s = -21 then -11 else if s = -22 then -12 else if s = -23 then -13 else s
/-- the rule at r -/
def CRl (I : Nat → Nat → Int32) (r : Nat) (T : Nat → Nat → Int32) (len : Nat) : Prop := I r 2 = nI len ∧ ∀ k, k < len → I (r + 1) k = opc (T 1082 k)
/-- the island at h -/
def CIs (I : Nat → Nat → Int32) (L : Nat → Nat → Int64) (h : Nat) (T : Nat → Nat → Int32) (W H np len : Nat) : Prop :=
  CSn I L (h + 1) T W H ∧ CRl I (h + 5) T len ∧ (I h 3 = nI np ∧ ∀ p k, p < np → k < 6 → I (h + 10 + p) k = T (1076 + k) p) ∧ (I h 4 = T 1072 11 ∧ I h 5 = T 1072 7 ∧ I h 6 = T 1072 8 ∧ I h 7 = T 1072 9) ∧ ∀ f, f < 4 → I (h + 9) f = T 1072 (12 + f)
theorem i32_nn (x : Int32) : 0 ≤ x ↔ x.toBitVec.msb = false := by
  rw [Int32.le_iff_toInt_le, show (0 : Int32).toInt = 0 from by decide, BitVec.msb_eq_toInt]
  show 0 ≤ x.toBitVec.toInt ↔ _
  constructor
  · intro h; exact decide_eq_false (by omega)
  · intro h; have := of_decide_eq_false h; omega
theorem fm_eq (v : Int32) {n : Nat} (h0 : 0 < n) (hn : n ≤ 9) : (if 0 ≤ (v ^^^ nI n) then v - v / nI n * nI n else if v - v / nI n * nI n = 0 then v - v / nI n * nI n else v - v / nI n * nI n + nI n) = nI (rmod v.toInt n) := by
  have e1 := irem_toInt v h0 (by omega)
  have hx : (0 ≤ (v ^^^ nI n)) ↔ 0 ≤ v.toInt := by
    rw [i32_nn, Int32.toBitVec_xor, BitVec.msb_xor]
    have hm : (nI n).toBitVec.msb = false := (i32_nn _).mp (by rw [Int32.le_iff_toInt_le, nI_toInt (by omega), show (0 : Int32).toInt = 0 from by decide]; omega)
    rw [hm, Bool.xor_false, ← i32_nn, Int32.le_iff_toInt_le, show (0 : Int32).toInt = 0 from by decide]
  have hl := rmod_lt v.toInt h0
  have b3 : v.toInt.tmod n < n := Int.tmod_lt_of_pos _ (by omega)
  have b4 : -(n : Int) < v.toInt.tmod n := by
    have q1 := Int.natAbs_tmod v.toInt n
    have q2 := Nat.mod_lt v.toInt.natAbs (y := (n : Int).natAbs) (by omega)
    omega
  have hnn := Int.emod_nonneg v.toInt (b := (n : Int)) (by omega)
  have hlt := Int.emod_lt_of_pos v.toInt (b := (n : Int)) (by omega)
  have e2 := Int.tmod_def v.toInt n
  have key : (rmod v.toInt n : Int) = v.toInt % n := by unfold rmod; exact Int.toNat_of_nonneg hnn
  apply Int32.toInt_inj.mp
  rw [nI_toInt (by omega)]
  by_cases c1 : 0 ≤ (v ^^^ nI n)
  · rw [if_pos c1, e1, key, Int.tmod_eq_emod_of_nonneg (hx.mp c1)]
  · rw [if_neg c1]
    have hneg : v.toInt < 0 := by
      by_cases q : 0 ≤ v.toInt
      · exact absurd (hx.mpr q) c1
      · omega
    have ht0 : v.toInt.tmod n ≤ 0 := by
      have := Int.tmod_nonneg (n : Int) (show 0 ≤ -v.toInt by omega)
      rw [Int.neg_tmod] at this
      omega
    have e4 : (v.toInt.tmod n) % n = v.toInt % n := by
      have q : v.toInt.tmod n = v.toInt + n * (-(v.toInt.tdiv n)) := by rw [e2, Int.mul_neg]; omega
      rw [q]
      exact Int.add_mul_emod_self_left _ _ _
    by_cases c2 : v - v / nI n * nI n = 0
    · rw [if_pos c2, e1, key]
      have z : v.toInt.tmod n = 0 := by rw [← e1, c2]; decide
      rw [z] at e4
      rw [z, ← e4]
      simp
    · rw [if_neg c2, Int32.toInt_add, e1, nI_toInt (by omega), bmod_in (by omega) (by omega), key]
      have z : v.toInt.tmod n ≠ 0 := fun z => c2 (Int32.toInt_inj.mp (by rw [e1, z]; decide))
      rw [← e4]
      have q : (v.toInt.tmod n) % n = (v.toInt.tmod n + n * 1) % n := (Int.add_mul_emod_self_left _ _ _).symm
      rw [q, Int.mul_one, Int.emod_eq_of_lt (by omega) (by omega)]
/-- the cells beside those of f -/
def opB (f : Nat → Bool) (q : Option Nat) : Bool := match q with
  | some a => f a
  | none => false
def besF (W H : Nat) (f : Nat → Bool) (c : Nat) : Bool := anyN (fun w => opB f (nbr W H c w)) 4
/-- the lowest ground that is dry -/
def lwI (kind load level : Nat) : Int32 := if (if kind = 1 then (if (if kind = 2 then nI level - 1 else nI level + 1) < nI load - 2 then nI load - 2 else (if kind = 2 then nI level - 1 else nI level + 1)) else (if kind = 2 then nI level - 1 else nI level + 1)) < 0 then 0 else (if kind = 1 then (if (if kind = 2 then nI level - 1 else nI level + 1) < nI load - 2 then nI load - 2 else (if kind = 2 then nI level - 1 else nI level + 1)) else (if kind = 2 then nI level - 1 else nI level + 1))
def lwN (kind load level : Nat) : Nat := if kind = 2 then level - 1 else if kind = 1 ∧ level + 3 < load then load - 2 else level + 1
theorem lw_eq : ∀ k, k < 4 → ∀ ld, ld < 10 → ∀ lv, lv < 21 → lwI k ld lv = nI (lwN k ld lv) := by decide +kernel
theorem lwN_le {k ld lv : Nat} (h1 : ld < 10) (h2 : lv < 21) : lwN k ld lv ≤ 22 := by
  unfold lwN
  split
  · omega
  · split <;> omega
