/-! bits of longs, as sets of numbers -/
def bt (x : Int64) (c : Nat) : Bool := x.toBitVec.getLsbD c
theorem bt_or (x y : Int64) (c : Nat) : bt (x ||| y) c = (bt x c || bt y c) := by unfold bt; rw [Int64.toBitVec_or, BitVec.getLsbD_or]
theorem bt_and (x y : Int64) (c : Nat) : bt (x &&& y) c = (bt x c && bt y c) := by unfold bt; rw [Int64.toBitVec_and, BitVec.getLsbD_and]
theorem bt_xor (x y : Int64) (c : Nat) : bt (x ^^^ y) c = (bt x c ^^ bt y c) := by unfold bt; rw [Int64.toBitVec_xor, BitVec.getLsbD_xor]
theorem bt_0 (c : Nat) : bt 0 c = false := by
  show (0#64).getLsbD c = false
  exact BitVec.getLsbD_zero
theorem bt_ge {x : Int64} {c : Nat} (h : 64 ≤ c) : bt x c = false := by
  unfold bt
  exact BitVec.getLsbD_of_ge _ _ h
theorem bt_m1 {c : Nat} (h : c < 64) : bt (-1) c = true := by
  show (BitVec.allOnes 64).getLsbD c = true
  rw [BitVec.getLsbD_allOnes, decide_eq_true h]
theorem bt_not {x : Int64} {c : Nat} (h : c < 64) : bt (x ^^^ (-1)) c = !bt x c := by rw [bt_xor, bt_m1 h, Bool.xor_true]
theorem bt_ext {x y : Int64} (h : ∀ c, c < 64 → bt x c = bt y c) : x = y := by
  apply Int64.toBitVec_inj.mp
  apply BitVec.eq_of_getLsbD_eq
  intro i hi
  exact h i hi
theorem sh_am : ∀ k, k < 64 → ((nI k).toInt64 &&& 63).toBitVec.smod 64 = BitVec.ofNat 64 k := by decide +kernel
theorem sh_au : ∀ k, k < 64 → ((nI k).toInt64.toUInt64 &&& Int64.toUInt64 63).toBitVec % 64 = BitVec.ofNat 64 k := by decide +kernel
theorem bt_shl {x : Int64} {k : Nat} (hk : k < 64) (c : Nat) : bt (x <<< ((nI k).toInt64 &&& 63)) c = (decide (k ≤ c ∧ c < 64) && bt x (c - k)) := by
  unfold bt
  rw [Int64.toBitVec_shiftLeft, sh_am k hk, BitVec.shiftLeft_eq', BitVec.toNat_ofNat, Nat.mod_eq_of_lt (by omega), BitVec.getLsbD_shiftLeft]
  by_cases h1 : c < 64
  · by_cases h2 : c < k
    · rw [decide_eq_true h1, decide_eq_true h2, decide_eq_false (by omega)]; rfl
    · rw [decide_eq_true h1, decide_eq_false h2, decide_eq_true (by omega)]; rfl
  · rw [decide_eq_false h1, decide_eq_false (p := k ≤ c ∧ c < 64) (by omega)]; rfl
theorem bt_shr {x : Int64} {k : Nat} (hk : k < 64) (c : Nat) : bt ((x.toUInt64 >>> ((nI k).toInt64.toUInt64 &&& Int64.toUInt64 63)).toInt64) c = bt x (k + c) := by
  unfold bt
  show ((x.toUInt64 >>> ((nI k).toInt64.toUInt64 &&& Int64.toUInt64 63)).toBitVec).getLsbD c = _
  rw [UInt64.toBitVec_shiftRight, sh_au k hk, BitVec.ushiftRight_eq', BitVec.toNat_ofNat, Nat.mod_eq_of_lt (by omega), BitVec.getLsbD_ushiftRight]
  rfl
theorem bt_1 (c : Nat) : bt 1 c = decide (c = 0) := by
  show (1#64).getLsbD c = _
  rw [BitVec.getLsbD_one]
  simp
theorem bt_sh1 {k : Nat} (hk : k < 64) (c : Nat) : bt (1 <<< ((nI k).toInt64 &&& 63)) c = decide (c = k) := by
  rw [bt_shl hk, bt_1]
  by_cases h : c = k
  · rw [decide_eq_true h, decide_eq_true (by omega), decide_eq_true (by omega)]; rfl
  · rw [decide_eq_false h]
    by_cases h2 : k ≤ c ∧ c < 64
    · rw [decide_eq_true h2, decide_eq_false (by omega)]; rfl
    · rw [decide_eq_false h2]; rfl
theorem bt_one {x : Int64} : (x &&& 1) = if bt x 0 = true then 1 else 0 := by
  apply bt_ext
  intro c hc
  rw [bt_and, bt_1]
  by_cases z : c = 0
  · rw [z]
    cases h : bt x 0
    · rw [if_neg (by decide), bt_0]; rfl
    · rw [if_pos rfl, bt_1]; rfl
  · rw [decide_eq_false z, Bool.and_false]
    cases h : bt x 0
    · rw [if_neg (by decide), bt_0]
    · rw [if_pos rfl, bt_1, decide_eq_false z]
theorem bt_ne0 {x : Int64} : x ≠ 0 ↔ ∃ c, c < 64 ∧ bt x c = true := by
  constructor
  · intro h
    apply Classical.byContradiction
    intro q
    apply h
    apply bt_ext
    intro c hc
    rw [bt_0]
    cases e : bt x c
    · rfl
    · exact absurd ⟨c, hc, e⟩ q
  · rintro ⟨c, -, h⟩ e
    rw [e, bt_0] at h
    cases h
theorem bt_shr1 {x : Int64} {k : Nat} (hk : k < 64) : ((x.toUInt64 >>> ((nI k).toInt64.toUInt64 &&& Int64.toUInt64 63)).toInt64 &&& 1) = if bt x k = true then 1 else 0 := by
  rw [bt_one, bt_shr hk, Nat.add_zero]
theorem lcmp_0 (b : Bool) : lg_cmp (if b = true then (1 : Int64) else 0) 0 = jb b := by cases b <;> decide
theorem lcmp_ne {x : Int64} : lg_cmp x 0 = 0 ↔ x = 0 := by
  unfold lg_cmp
  by_cases h2 : x = 0
  · rw [h2]; exact ⟨fun _ => rfl, fun _ => by decide⟩
  · constructor
    · intro h
      rw [if_neg h2] at h
      split at h
      · cases h
      · cases h
    · intro h; exact absurd h h2
