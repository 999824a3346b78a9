/-! how many bits a long has -/
theorem and_lane {k u c p q : Nat} (hu : u < 2 ^ k) (hc : c < 2 ^ k) : (u + 2 ^ k * p) &&& (c + 2 ^ k * q) = (u &&& c) + 2 ^ k * (p &&& q) := by
  apply Nat.eq_of_testBit_eq
  intro j
  rw [Nat.testBit_and, Nat.add_comm u, Nat.add_comm c, Nat.add_comm (u &&& c), Nat.testBit_two_pow_mul_add _ hu, Nat.testBit_two_pow_mul_add _ hc, Nat.testBit_two_pow_mul_add _ (Nat.lt_of_le_of_lt Nat.and_le_left hu)]
  by_cases h : j < k
  · rw [if_pos h, if_pos h, if_pos h, Nat.testBit_and]
  · rw [if_neg h, if_neg h, if_neg h, Nat.testBit_and]
theorem and_l8 {u c p q : Nat} (hu : u < 256) (hc : c < 256) : (u + 256 * p) &&& (c + 256 * q) = (u &&& c) + 256 * (p &&& q) := and_lane (k := 8) hu hc
def lns (b : Nat → Nat) : Nat → Nat
  | 0 => 0
  | k + 1 => b 0 + 256 * lns (fun i => b (i + 1)) k
def ln1 (b : Nat) : Nat := b - ((b / 2) &&& 85)
def ln2 (b : Nat) : Nat := (b &&& 51) + ((b / 4) &&& 51)
def ln3 (b : Nat) : Nat := (b + b / 16) &&& 15
theorem ln_1 : ∀ b, b < 256 → ∀ e, e < 2 → (b / 2 + 128 * e) &&& 85 = (b / 2) &&& 85 := by decide +kernel
theorem ln_2 : ∀ b, b < 256 → ∀ e, e < 4 → (b / 4 + 64 * e) &&& 51 = (b / 4) &&& 51 := by decide +kernel
theorem ln_3 : ∀ b, b < 256 → ∀ e, e < 5 → (b + b / 16 + 16 * e) &&& 15 = (b + b / 16) &&& 15 := by decide +kernel
theorem ln_b : ∀ b, b < 256 → ln1 b < 256 ∧ (ln2 (ln1 b) ≤ 68 ∧ ln2 (ln1 b) % 16 ≤ 4) ∧ ln3 (ln2 (ln1 b)) = cntN (fun j => b.testBit j) 8 := by decide +kernel
theorem ln1_le (b : Nat) : (b / 2) &&& 85 ≤ b := Nat.le_trans Nat.and_le_left (Nat.div_le_self b 2)
theorem sh1_le (y m : Nat) : (y / 2) &&& m ≤ y := Nat.le_trans Nat.and_le_left (Nat.div_le_self y 2)
theorem st_1 : ∀ (k : Nat) (b : Nat → Nat), (∀ i, i < k → b i < 256) → lns b k - ((lns b k / 2) &&& lns (fun _ => 85) k) = lns (fun i => ln1 (b i)) k
  | 0, _, _ => by simp [lns]
  | k + 1, b, h => by
    have ih := st_1 k (fun i => b (i + 1)) (fun i hi => h (i + 1) (by omega))
    have h0 := h 0 (by omega)
    show b 0 + 256 * lns (fun i => b (i + 1)) k - ((b 0 + 256 * lns (fun i => b (i + 1)) k) / 2 &&& (85 + 256 * lns (fun _ => 85) k)) = ln1 (b 0) + 256 * lns (fun i => ln1 (b (i + 1))) k
    rw [← ih]
    generalize lns (fun i => b (i + 1)) k = y
    generalize lns (fun _ => 85) k = m
    have e : (b 0 + 256 * y) / 2 = (b 0 / 2 + 128 * (y % 2)) + 256 * (y / 2) := by omega
    rw [e, and_l8 (by omega) (by decide), ln_1 _ h0 _ (by omega)]
    have := ln1_le (b 0)
    have := sh1_le y m
    unfold ln1
    omega
theorem st_2 : ∀ (k : Nat) (b : Nat → Nat), (∀ i, i < k → b i < 256) → (lns b k &&& lns (fun _ => 51) k) + ((lns b k / 4) &&& lns (fun _ => 51) k) = lns (fun i => ln2 (b i)) k
  | 0, _, _ => by simp [lns]
  | k + 1, b, h => by
    have ih := st_2 k (fun i => b (i + 1)) (fun i hi => h (i + 1) (by omega))
    have h0 := h 0 (by omega)
    show ((b 0 + 256 * lns (fun i => b (i + 1)) k) &&& (51 + 256 * lns (fun _ => 51) k)) + ((b 0 + 256 * lns (fun i => b (i + 1)) k) / 4 &&& (51 + 256 * lns (fun _ => 51) k)) = ln2 (b 0) + 256 * lns (fun i => ln2 (b (i + 1))) k
    rw [← ih]
    generalize lns (fun i => b (i + 1)) k = y
    generalize lns (fun _ => 51) k = m
    have e : (b 0 + 256 * y) / 4 = (b 0 / 4 + 64 * (y % 4)) + 256 * (y / 4) := by omega
    rw [e, and_l8 (by omega) (by decide), and_l8 (by omega) (by decide), ln_2 _ h0 _ (by omega)]
    unfold ln2
    omega
theorem lns_16 : ∀ (k : Nat) (b : Nat → Nat), (∀ i, i < k → b i % 16 ≤ 4) → lns b k % 16 ≤ 4
  | 0, _, _ => by show 0 % 16 ≤ 4; decide
  | k + 1, b, h => by
    have := h 0 (by omega)
    show (b 0 + 256 * _) % 16 ≤ 4
    omega
theorem st_3 : ∀ (k : Nat) (b : Nat → Nat), (∀ i, i < k → b i ≤ 68 ∧ b i % 16 ≤ 4) → (lns b k + lns b k / 16) &&& lns (fun _ => 15) k = lns (fun i => ln3 (b i)) k
  | 0, _, _ => by simp [lns]
  | k + 1, b, h => by
    have ih := st_3 k (fun i => b (i + 1)) (fun i hi => h (i + 1) (by omega))
    have h0 := h 0 (by omega)
    have h16 := lns_16 k (fun i => b (i + 1)) (fun i hi => (h (i + 1) (by omega)).2)
    show ((b 0 + 256 * lns (fun i => b (i + 1)) k) + (b 0 + 256 * lns (fun i => b (i + 1)) k) / 16) &&& (15 + 256 * lns (fun _ => 15) k) = ln3 (b 0) + 256 * lns (fun i => ln3 (b (i + 1))) k
    rw [← ih]
    revert h16
    generalize lns (fun i => b (i + 1)) k = y
    generalize lns (fun _ => 15) k = m
    intro h16
    have e : (b 0 + 256 * y) + (b 0 + 256 * y) / 16 = (b 0 + b 0 / 16 + 16 * (y % 16)) + 256 * (y + y / 16) := by omega
    rw [e, and_l8 (by omega) (by decide), ln_3 _ (by omega) _ (by omega)]
    rfl
theorem cntN_cc {f g : Nat → Bool} : ∀ n, (∀ i, i < n → f i = g i) → cntN f n = cntN g n
  | 0, _ => rfl
  | n + 1, h => by
    show cntN f n + _ = cntN g n + _
    rw [cntN_cc n (fun i hi => h i (by omega)), h n (by omega)]
theorem cntN_add (f : Nat → Bool) (a : Nat) : ∀ b, cntN f (a + b) = cntN f a + cntN (fun j => f (a + j)) b
  | 0 => rfl
  | b + 1 => by
    show cntN f (a + b) + _ = cntN f a + (cntN (fun j => f (a + j)) b + _)
    rw [cntN_add f a b, Nat.add_assoc]
    rfl
def smA (f : Nat → Nat) : Nat → Nat
  | 0 => 0
  | k + 1 => f 0 + smA (fun i => f (i + 1)) k
theorem cntN_lns : ∀ (k : Nat) (b : Nat → Nat), (∀ i, i < k → b i < 256) → cntN (fun j => (lns b k).testBit j) (8 * k) = smA (fun i => cntN (fun j => (b i).testBit j) 8) k
  | 0, _, _ => rfl
  | k + 1, b, h => by
    have ih := cntN_lns k (fun i => b (i + 1)) (fun i hi => h (i + 1) (by omega))
    have hb : ∀ j, (lns b (k + 1)).testBit j = if j < 8 then (b 0).testBit j else (lns (fun i => b (i + 1)) k).testBit (j - 8) := fun j => by
      show (b 0 + 2 ^ 8 * _).testBit j = _
      rw [Nat.add_comm, Nat.testBit_two_pow_mul_add _ (h 0 (by omega))]
    rw [show 8 * (k + 1) = 8 + 8 * k by omega, cntN_add]
    show _ = cntN (fun j => (b 0).testBit j) 8 + smA (fun i => cntN (fun j => (b (i + 1)).testBit j) 8) k
    rw [← ih]
    congr 1
    · exact cntN_cc 8 (fun i hi => by rw [hb, if_pos hi])
    · exact cntN_cc _ (fun i hi => by rw [hb, if_neg (by omega), show 8 + i - 8 = i by omega])
theorem lns_of : ∀ (k x : Nat), x < 256 ^ k → lns (fun i => x / 256 ^ i % 256) k = x
  | 0, x, h => by
    have : x = 0 := by simpa using h
    rw [this]; rfl
  | k + 1, x, h => by
    have hx : x / 256 < 256 ^ k := by
      rw [Nat.div_lt_iff_lt_mul (by decide)]
      rw [Nat.pow_succ] at h; exact h
    have ih := lns_of k (x / 256) hx
    show x / 256 ^ 0 % 256 + 256 * lns (fun i => x / 256 ^ (i + 1) % 256) k = x
    have e : (fun i => x / 256 ^ (i + 1) % 256) = (fun i => x / 256 / 256 ^ i % 256) := by
      funext i
      rw [Nat.div_div_eq_div_mul, Nat.pow_succ, Nat.mul_comm 256]
    rw [e, ih, Nat.pow_zero, Nat.div_one]
    omega
def tn (x : Int64) : Nat := x.toBitVec.toNat
theorem tn_lt (x : Int64) : tn x < 2 ^ 64 := x.toBitVec.isLt
theorem tn_add {a b : Int64} (h : tn a + tn b < 2 ^ 64) : tn (a + b) = tn a + tn b := by
  unfold tn at h ⊢
  rw [Int64.toBitVec_add, BitVec.toNat_add, Nat.mod_eq_of_lt h]
theorem tn_sub {a b : Int64} (h : tn b ≤ tn a) : tn (a - b) = tn a - tn b := by
  unfold tn at h ⊢
  rw [Int64.toBitVec_sub, BitVec.toNat_sub_of_le h]
theorem tn_and (a b : Int64) : tn (a &&& b) = tn a &&& tn b := by
  unfold tn
  rw [Int64.toBitVec_and, BitVec.toNat_and]
theorem tn_sh {a : Int64} {k : Nat} {y : Int32} (h : (y.toInt64.toUInt64 &&& Int64.toUInt64 63) = UInt64.ofNat k) (hk : k < 64) : tn ((a.toUInt64 >>> (y.toInt64.toUInt64 &&& Int64.toUInt64 63)).toInt64) = tn a / 2 ^ k := by
  rw [h]
  show (a.toUInt64 >>> UInt64.ofNat k).toNat = _
  rw [UInt64.toNat_shiftRight, Nat.shiftRight_eq_div_pow]
  have : (UInt64.ofNat k).toNat % 64 = k := by rw [UInt64.toNat_ofNat']; omega
  rw [this]
  rfl
theorem bt_tn (x : Int64) (c : Nat) : bt x c = (tn x).testBit c := rfl
def us (x : Int64) (k : Int32) : Int64 := (x.toUInt64 >>> (k.toInt64.toUInt64 &&& Int64.toUInt64 63)).toInt64
def pq1 (x : Int64) : Int64 := x - (us x 1 &&& 6148914691236517205)
def pq2 (v : Int64) : Int64 := (v &&& 3689348814741910323) + (us v 2 &&& 3689348814741910323)
def pq3 (v : Int64) : Int64 := (v + us v 4) &&& 1085102592571150095
def pq4 (v : Int64) : Int64 := v + us v 8
def pq5 (v : Int64) : Int64 := v + us v 16
def pq6 (v : Int64) : Int64 := v + us v 32
theorem lns_mo : ∀ (k m : Nat) (b : Nat → Nat), (∀ i, i < k → b i ≤ m) → lns b k ≤ lns (fun _ => m) k
  | 0, _, _, _ => Nat.le_refl _
  | k + 1, m, b, h => by
    have ih := lns_mo k m (fun i => b (i + 1)) (fun i hi => h (i + 1) (by omega))
    have h0 := h 0 (by omega)
    show b 0 + 256 * lns (fun i => b (i + 1)) k ≤ m + 256 * lns (fun _ => m) k
    omega
theorem i32_127 (v : Int64) : v.toInt32 &&& 127 = nI (tn v % 128) := by
  apply Int32.toBitVec_inj.mp
  apply BitVec.eq_of_toNat_eq
  rw [Int32.toBitVec_and, BitVec.toNat_and]
  have e1 : v.toInt32.toBitVec.toNat = tn v % 2 ^ 32 := by
    show (v.toBitVec.signExtend 32).toNat = _
    rw [BitVec.signExtend_eq_setWidth_of_le _ (by decide), BitVec.toNat_setWidth]; rfl
  have e2 : (127 : Int32).toBitVec.toNat = 2 ^ 7 - 1 := rfl
  have e3 : (nI (tn v % 128)).toBitVec.toNat = tn v % 128 % 2 ^ 32 := rfl
  rw [e1, e2, e3, Nat.and_two_pow_sub_one_eq_mod]
  omega
theorem lns_add : ∀ (k : Nat) (f g : Nat → Nat), lns f k + lns g k = lns (fun i => f i + g i) k
  | 0, _, _ => rfl
  | k + 1, f, g => by
    have ih := lns_add k (fun i => f (i + 1)) (fun i => g (i + 1))
    show (f 0 + 256 * lns (fun i => f (i + 1)) k) + (g 0 + 256 * lns (fun i => g (i + 1)) k) = (f 0 + g 0) + 256 * lns (fun i => f (i + 1) + g (i + 1)) k
    rw [← ih]; omega
theorem lns_z : ∀ (k : Nat) (f : Nat → Nat), f k = 0 → lns f (k + 1) = lns f k
  | 0, f, h => by show f 0 + 256 * 0 = 0; omega
  | k + 1, f, h => by
    have ih := lns_z k (fun i => f (i + 1)) h
    show f 0 + 256 * lns (fun i => f (i + 1)) (k + 1) = f 0 + 256 * lns (fun i => f (i + 1)) k
    rw [ih]
theorem lns_lt : ∀ (k : Nat) (f : Nat → Nat), (∀ i, i < k → f i < 256) → lns f k < 256 ^ k
  | 0, _, _ => Nat.one_pos
  | k + 1, f, h => by
    have ih := lns_lt k (fun i => f (i + 1)) (fun i hi => h (i + 1) (by omega))
    have h0 := h 0 (by omega)
    show f 0 + 256 * lns (fun i => f (i + 1)) k < 256 ^ (k + 1)
    rw [Nat.pow_succ]
    omega
theorem lns_d1 (f : Nat → Nat) (h : ∀ i, f i < 256) (hz : ∀ i, 8 ≤ i → f i = 0) : lns f 8 / 256 = lns (fun i => f (i + 1)) 8 := by
  rw [lns_z 7 (fun i => f (i + 1)) (hz 8 (by omega))]
  show (f 0 + 256 * lns (fun i => f (i + 1)) 7) / 256 = _
  have := h 0
  omega
theorem smA8 (p : Nat → Nat) : smA p 8 = p 0 + (p 1 + (p 2 + (p 3 + (p 4 + (p 5 + (p 6 + p 7)))))) := rfl
/-- the last three steps, in lanes that are zero from the eighth on -/
theorem pop_l {v : Int64} {p : Nat → Nat} (t3 : tn v = lns p 8) (h8 : ∀ i, p i ≤ 8) (hz : ∀ i, 8 ≤ i → p i = 0) : tn (pq6 (pq5 (pq4 v))) % 128 = smA p 8 := by
  have e4 : tn (us v 8) = lns (fun i => p (i + 1)) 8 := by
    unfold us
    rw [tn_sh (k := 8) (by decide) (by decide), t3]
    exact lns_d1 p (fun i => by have := h8 i; omega) hz
  have t4 : tn (pq4 v) = lns (fun i => p i + p (i + 1)) 8 := by
    have b := lns_lt 8 (fun i => p i + p (i + 1)) (fun i _ => by have := h8 i; have := h8 (i + 1); show p i + p (i + 1) < 256; omega)
    rw [← lns_add] at b
    unfold pq4
    rw [tn_add (by rw [e4, t3]; exact b), e4, t3, lns_add]
  generalize hQ : (fun i => p i + p (i + 1)) = q at t4
  have q16 : ∀ i, q i ≤ 16 := fun i => by rw [← hQ]; have := h8 i; have := h8 (i + 1); show p i + p (i + 1) ≤ 16; omega
  have qz : ∀ i, 8 ≤ i → q i = 0 := fun i hi => by rw [← hQ]; have := hz i hi; have := hz (i + 1) (by omega); show p i + p (i + 1) = 0; omega
  have e5 : tn (us (pq4 v) 16) = lns (fun i => q (i + 2)) 8 := by
    unfold us
    rw [tn_sh (k := 16) (by decide) (by decide), t4, show 2 ^ 16 = 256 * 256 from rfl, ← Nat.div_div_eq_div_mul, lns_d1 q (fun i => by have := q16 i; omega) qz]
    exact lns_d1 (fun i => q (i + 1)) (fun i => by have := q16 (i + 1); show q (i + 1) < 256; omega) (fun i hi => qz (i + 1) (by omega))
  have t5 : tn (pq5 (pq4 v)) = lns (fun i => q i + q (i + 2)) 8 := by
    have b := lns_lt 8 (fun i => q i + q (i + 2)) (fun i _ => by have := q16 i; have := q16 (i + 2); show q i + q (i + 2) < 256; omega)
    rw [← lns_add] at b
    unfold pq5
    rw [tn_add (by rw [e5, t4]; exact b), e5, t4, lns_add]
  generalize hS : (fun i => q i + q (i + 2)) = r at t5
  have r32 : ∀ i, r i ≤ 32 := fun i => by rw [← hS]; have := q16 i; have := q16 (i + 2); show q i + q (i + 2) ≤ 32; omega
  have rz : ∀ i, 8 ≤ i → r i = 0 := fun i hi => by rw [← hS]; have := qz i hi; have := qz (i + 2) (by omega); show q i + q (i + 2) = 0; omega
  have e6 : tn (us (pq5 (pq4 v)) 32) = lns (fun i => r (i + 4)) 8 := by
    unfold us
    rw [tn_sh (k := 32) (by decide) (by decide), t5, show 2 ^ 32 = 256 * 256 * 256 * 256 from rfl, ← Nat.div_div_eq_div_mul, ← Nat.div_div_eq_div_mul, ← Nat.div_div_eq_div_mul, lns_d1 r (fun i => by have := r32 i; omega) rz]
    rw [lns_d1 (fun i => r (i + 1)) (fun i => by have := r32 (i + 1); show r (i + 1) < 256; omega) (fun i hi => rz (i + 1) (by omega))]
    rw [lns_d1 (fun i => r (i + 1 + 1)) (fun i => by have := r32 (i + 1 + 1); show r (i + 1 + 1) < 256; omega) (fun i hi => rz (i + 1 + 1) (by omega))]
    exact lns_d1 (fun i => r (i + 1 + 1 + 1)) (fun i => by have := r32 (i + 1 + 1 + 1); show r (i + 1 + 1 + 1) < 256; omega) (fun i hi => rz (i + 1 + 1 + 1) (by omega))
  have t6 : tn (pq6 (pq5 (pq4 v))) = lns (fun i => r i + r (i + 4)) 8 := by
    have b := lns_lt 8 (fun i => r i + r (i + 4)) (fun i _ => by have := r32 i; have := r32 (i + 4); show r i + r (i + 4) < 256; omega)
    rw [← lns_add] at b
    unfold pq6
    rw [tn_add (by rw [e6, t5]; exact b), e6, t5, lns_add]
  have z8 := hz 8 (by omega)
  have r0 : r 0 + r (0 + 4) = smA p 8 := by
    rw [smA8, ← hS, ← hQ]
    show p 0 + p 1 + (p 2 + p 3) + (p 4 + p 5 + (p 6 + p 7)) = _
    omega
  have hb0 := r32 0
  have hb4 := r32 (0 + 4)
  rw [t6]
  show (r 0 + r (0 + 4) + 256 * lns _ 7) % 128 = _
  rw [← r0]
  omega
theorem lns_c : ∀ (k : Nat) (f g : Nat → Nat), (∀ i, i < k → f i = g i) → lns f k = lns g k
  | 0, _, _, _ => rfl
  | k + 1, f, g, h => by
    show f 0 + 256 * lns (fun i => f (i + 1)) k = g 0 + 256 * lns (fun i => g (i + 1)) k
    rw [h 0 (by omega), lns_c k _ _ (fun i hi => h (i + 1) (by omega))]
theorem smA_c : ∀ (k : Nat) (f g : Nat → Nat), (∀ i, i < k → f i = g i) → smA f k = smA g k
  | 0, _, _, _ => rfl
  | k + 1, f, g, h => by
    show f 0 + smA (fun i => f (i + 1)) k = g 0 + smA (fun i => g (i + 1)) k
    rw [h 0 (by omega), smA_c k _ _ (fun i hi => h (i + 1) (by omega))]
theorem pop_e (x : Int64) : (pq6 (pq5 (pq4 (pq3 (pq2 (pq1 x)))))).toInt32 &&& 127 = nI (cntN (bt x) 64) := by
  have hlt := tn_lt x
  have hb : ∀ i, i < 8 → tn x / 256 ^ i % 256 < 256 := fun i _ => Nat.mod_lt _ (by decide)
  have hx : lns (fun i => tn x / 256 ^ i % 256) 8 = tn x := lns_of 8 _ hlt
  generalize hbb : (fun i => tn x / 256 ^ i % 256) = b at hx
  have hb : ∀ i, i < 8 → b i < 256 := fun i hi => by rw [← hbb]; exact hb i hi
  have c1 : tn (6148914691236517205 : Int64) = lns (fun _ => 85) 8 := rfl
  have c2 : tn (3689348814741910323 : Int64) = lns (fun _ => 51) 8 := rfl
  have c3 : tn (1085102592571150095 : Int64) = lns (fun _ => 15) 8 := rfl
  have t1 : tn (pq1 x) = lns (fun i => ln1 (b i)) 8 := by
    have e : tn (us x 1 &&& 6148914691236517205) = (tn x / 2) &&& lns (fun _ => 85) 8 := by
      rw [tn_and, c1]; unfold us; rw [tn_sh (k := 1) (by decide) (by decide)]
    unfold pq1
    rw [tn_sub (by rw [e]; exact sh1_le _ _), e, ← hx]
    exact st_1 8 b hb
  have hb1 : ∀ i, i < 8 → ln1 (b i) < 256 := fun i hi => (ln_b _ (hb i hi)).1
  have t2 : tn (pq2 (pq1 x)) = lns (fun i => ln2 (ln1 (b i))) 8 := by
    have e1 : tn (pq1 x &&& 3689348814741910323) = tn (pq1 x) &&& lns (fun _ => 51) 8 := by rw [tn_and, c2]
    have e2 : tn (us (pq1 x) 2 &&& 3689348814741910323) = (tn (pq1 x) / 4) &&& lns (fun _ => 51) 8 := by
      rw [tn_and, c2]; unfold us; rw [tn_sh (k := 2) (by decide) (by decide)]
    have b1 : tn (pq1 x) &&& lns (fun _ => 51) 8 ≤ lns (fun _ => 51) 8 := Nat.and_le_right
    have b2 : (tn (pq1 x) / 4) &&& lns (fun _ => 51) 8 ≤ lns (fun _ => 51) 8 := Nat.and_le_right
    have b3 : lns (fun _ => 51) 8 + lns (fun _ => 51) 8 < 2 ^ 64 := by decide
    unfold pq2
    rw [tn_add (by rw [e1, e2]; exact Nat.lt_of_le_of_lt (Nat.add_le_add b1 b2) b3), e1, e2, t1]
    exact st_2 8 (fun i => ln1 (b i)) hb1
  have hb2 : ∀ i, i < 8 → ln2 (ln1 (b i)) ≤ 68 ∧ ln2 (ln1 (b i)) % 16 ≤ 4 := fun i hi => (ln_b _ (hb i hi)).2.1
  have t3 : tn (pq3 (pq2 (pq1 x))) = lns (fun i => ln3 (ln2 (ln1 (b i)))) 8 := by
    have e2 : tn (us (pq2 (pq1 x)) 4) = tn (pq2 (pq1 x)) / 16 := by unfold us; rw [tn_sh (k := 4) (by decide) (by decide)]
    have b1 : tn (pq2 (pq1 x)) ≤ lns (fun _ => 68) 8 := by rw [t2]; exact lns_mo 8 68 _ (fun i hi => (hb2 i hi).1)
    have b3 : lns (fun _ => 68) 8 + lns (fun _ => 68) 8 < 2 ^ 64 := by decide
    unfold pq3
    rw [tn_and, tn_add (by rw [e2]; exact Nat.lt_of_le_of_lt (Nat.add_le_add b1 (Nat.le_trans (Nat.div_le_self _ _) b1)) b3), e2, c3, t2]
    exact st_3 8 (fun i => ln2 (ln1 (b i))) hb2
  have hq : cntN (bt x) 64 = smA (fun i => cntN (fun j => (b i).testBit j) 8) 8 := by
    rw [← cntN_lns 8 b hb, hx]; rfl
  have hp : ∀ i, i < 8 → ln3 (ln2 (ln1 (b i))) = (fun i => if i < 8 then cntN (fun j => (b i).testBit j) 8 else 0) i := fun i hi => by
    show _ = if i < 8 then cntN (fun j => (b i).testBit j) 8 else 0
    rw [if_pos hi]; exact (ln_b _ (hb i hi)).2.2
  rw [lns_c 8 _ _ hp] at t3
  rw [i32_127, pop_l t3 (fun i => by
    show (if i < 8 then cntN (fun j => (b i).testBit j) 8 else 0) ≤ 8
    split
    · exact cntN_le _ 8
    · omega) (fun i hi => if_neg (by omega)), hq]
  congr 1
