/-! what is meant: who may be where, how soon one comes over; the reference's island as it is taken over; what is scratch -/
theorem nI_zI (a : Nat) : nI a = zI (a : Int) := (Int32.ofInt_eq_ofNat (n := a)).symm
theorem zI_add (a b : Int) : zI a + zI b = zI (a + b) := (Int32.ofInt_add a b).symm
theorem zI_sub (a b : Int) : zI a - zI b = zI (a - b) := (Int32.ofInt_sub a b).symm
theorem zI_mul (a b : Int) : zI a * zI b = zI (a * b) := (Int32.ofInt_mul a b).symm
theorem zI_toInt {z : Int} (h1 : -2147483648 ≤ z) (h2 : z < 2147483648) : (zI z).toInt = z := by
  show (Int32.ofInt z).toInt = z
  rw [Int32.toInt_ofInt]
  exact bmod_in h1 h2
theorem zI_nat {z : Int} (h : 0 ≤ z) : zI z = nI z.toNat := by rw [nI_zI, Int.toNat_of_nonneg h]
def oI (q : Option Nat) : Int32 := match q with
  | some a => nI a
  | none => -1
def mayQ (W : Nat) (hgt wh : Nat → Nat) (q : Nat → Bool) (lev kind load c : Nat) : Bool :=
  decide (c % W = 0) || decide (c % W = W - 1) || decide (wh c ≠ 0) || ((!(decide (hgt c + (if kind = 2 then 2 else 0) ≤ lev) || (decide (0 < load) && q c))) && (decide (kind ≠ 1) || decide (load ≤ hgt c + 2)))
def nbr (W H c w : Nat) : Option Nat :=
  if w = 0 then (if W ≤ c then some (c - W) else none) else if w = 1 then (if c % W + 1 < W then some (c + 1) else none) else if w = 2 then (if c + W < W * H then some (c + W) else none) else (if c % W = 0 then none else some (c - 1))
def DX (w : Nat) : Int := if w = 1 then 1 else if w = 3 then -1 else 0
def DY (w : Nat) : Int := if w = 2 then 1 else if w = 0 then -1 else 0
theorem divlt {W H c : Nat} (h : c < W * H) : c / W < H := by
  rw [Nat.div_lt_iff_lt_mul (Nat.pos_of_ne_zero (fun q => by subst q; simp at h))]
  rw [Nat.mul_comm]; exact h
/-- the cell beside, by its x and y -/
theorem nbr_eq {W H c w : Nat} (hW : 3 ≤ W) (hH : 1 ≤ H) (hc : c < W * H) (hw : w < 4) :
    oI (nbr W H c w) = if (0 ≤ ((c % W : Nat) : Int) + DX w ∧ ((c % W : Nat) : Int) + DX w ≤ ((W - 1 : Nat) : Int)) ∧ (0 ≤ ((c / W : Nat) : Int) + DY w ∧ ((c / W : Nat) : Int) + DY w ≤ ((H - 1 : Nat) : Int)) then nI W * zI (((c / W : Nat) : Int) + DY w) + zI (((c % W : Nat) : Int) + DX w) else -1 := by
  have hm := Nat.mod_lt c (y := W) (by omega)
  have hd := divlt hc
  have hs := Nat.div_add_mod c W
  have hdn : (0 : Int) ≤ ((c / W : Nat) : Int) := Int.natCast_nonneg _
  rcases (by omega : w = 0 ∨ w = 1 ∨ w = 2 ∨ w = 3) with e | e | e | e <;> subst e
  · have hX : DX 0 = 0 := rfl
    have hY : DY 0 = -1 := rfl
    rw [hX, hY]
    by_cases h : W ≤ c
    · have h1 : 1 ≤ c / W := (Nat.le_div_iff_mul_le (by omega)).mpr (by omega)
      rw [if_pos ⟨⟨by omega, by omega⟩, by omega, by omega⟩]
      have e1 : ((c / W : Nat) : Int) + -1 = ((c / W - 1 : Nat) : Int) := by omega
      have e2 : W * (c / W - 1) = W * (c / W) - W := by rw [Nat.mul_sub, Nat.mul_one]
      rw [e1, Int.add_zero, ← nI_zI, ← nI_zI, pk_mul, nI_add, e2]
      have h2 : W ≤ W * (c / W) := Nat.le_mul_of_pos_right W h1
      simp only [nbr, if_true, if_pos h, oI]
      congr 1
      omega
    · have h1 : c / W = 0 := Nat.div_eq_of_lt (by omega)
      rw [if_neg (by omega)]
      simp only [nbr, if_true, if_neg h, oI]
  · have hX : DX 1 = 1 := rfl
    have hY : DY 1 = 0 := rfl
    rw [hX, hY]
    by_cases h : c % W + 1 < W
    · rw [if_pos ⟨⟨by omega, by omega⟩, by omega, by omega⟩]
      have e1 : ((c % W : Nat) : Int) + 1 = ((c % W + 1 : Nat) : Int) := by omega
      have e3 : nbr W H c 1 = some (c + 1) := by unfold nbr; simp [h]
      rw [e1, Int.add_zero, ← nI_zI, ← nI_zI, pk_mul, nI_add, e3]
      show nI (c + 1) = _
      congr 1
      omega
    · rw [if_neg (by omega)]
      have e3 : nbr W H c 1 = none := by unfold nbr; simp [h]
      rw [e3]
      rfl
  · have hX : DX 2 = 0 := rfl
    have hY : DY 2 = 1 := rfl
    rw [hX, hY]
    by_cases h : c / W + 1 < H
    · rw [if_pos ⟨⟨by omega, by omega⟩, by omega, by omega⟩]
      have e1 : ((c / W : Nat) : Int) + 1 = ((c / W + 1 : Nat) : Int) := by omega
      have e2 : W * (c / W + 1) = W * (c / W) + W := by rw [Nat.mul_add, Nat.mul_one]
      rw [e1, Int.add_zero, ← nI_zI, ← nI_zI, pk_mul, nI_add, e2]
      have h3 : W * (c / W + 1 + 1) ≤ W * H := Nat.mul_le_mul_left W h
      have h4 : W * (c / W + 1 + 1) = W * (c / W) + W + W := by rw [Nat.mul_add, e2, Nat.mul_one]
      have h5 : c + W < W * H := by omega
      have e3 : nbr W H c 2 = some (c + W) := by unfold nbr; simp [h5]
      rw [e3]
      show nI (c + W) = _
      congr 1
      omega
    · rw [if_neg (by omega)]
      have h5 : ¬ c + W < W * H := by
        have h6 : c / W = H - 1 := by omega
        have h7 : W * (c / W) = W * H - W := by rw [h6, Nat.mul_sub, Nat.mul_one]
        omega
      have e3 : nbr W H c 2 = none := by unfold nbr; simp [h5]
      rw [e3]
      rfl
  · have hX : DX 3 = -1 := rfl
    have hY : DY 3 = 0 := rfl
    rw [hX, hY]
    by_cases h : c % W = 0
    · rw [if_neg (by omega)]
      have e3 : nbr W H c 3 = none := by unfold nbr; simp [h]
      rw [e3]
      rfl
    · rw [if_pos ⟨⟨by omega, by omega⟩, by omega, by omega⟩]
      have e1 : ((c % W : Nat) : Int) + -1 = ((c % W - 1 : Nat) : Int) := by omega
      have e3 : nbr W H c 3 = some (c - 1) := by unfold nbr; simp [h]
      rw [e1, Int.add_zero, ← nI_zI, ← nI_zI, pk_mul, nI_add, e3]
      show nI (c - 1) = _
      congr 1
      omega
theorem nbr_lt {W H c w q : Nat} (hW : 3 ≤ W) (hH : 1 ≤ H) (hc : c < W * H) (h : nbr W H c w = some q) : q < W * H := by
  unfold nbr at h
  have hm := Nat.mod_lt c (y := W) (by omega)
  have hs := Nat.div_add_mod c W
  have hd := divlt hc
  by_cases h0 : w = 0
  · rw [if_pos h0] at h
    split at h
    · cases h; omega
    · cases h
  · rw [if_neg h0] at h
    by_cases h1 : w = 1
    · rw [if_pos h1] at h
      split at h
      · cases h
        have h3 : W * (c / W + 1) ≤ W * H := Nat.mul_le_mul_left W hd
        rw [Nat.mul_add, Nat.mul_one] at h3
        omega
      · cases h
    · rw [if_neg h1] at h
      by_cases h2 : w = 2
      · rw [if_pos h2] at h
        split at h
        · cases h; omega
        · cases h
      · rw [if_neg h2] at h
        split at h
        · cases h
        · cases h; omega
/-- all of the k ticks after t are safe on q -/
def allS (m : Nat → Nat → Bool) (q t : Nat) : Nat → Bool
  | 0 => true
  | j + 1 => allS m q t j && m q (t + j + 1)
theorem allS_le {m : Nat → Nat → Bool} {q t : Nat} : ∀ {j k : Nat}, j ≤ k → allS m q t k = true → allS m q t j = true
  | j, 0, h, h2 => by have : j = 0 := by omega
                      subst this; rfl
  | j, k + 1, h, h2 => by
    by_cases e : j = k + 1
    · subst e; exact h2
    · exact allS_le (k := k) (by omega) (by simp [allS] at h2; exact h2.1)
def stp (pace : Nat) (m : Nat → Nat → Bool) (q t : Nat) : Bool := decide (t + pace < 96) && allS m q t pace
def sMin (W H pace : Nat) (m : Nat → Nat → Bool) (s : Nat → Nat → Nat) (c t w b : Nat) : Nat := match nbr W H c w with
  | some q => if stp pace m q t then (if s q (t + pace) < b then s q (t + pace) else b) else b
  | none => b
def sStay (m : Nat → Nat → Bool) (s : Nat → Nat → Nat) (c t : Nat) : Nat := if t + 1 < 96 ∧ m c (t + 1) = true then s c (t + 1) else 1000
def sUp (W H pace : Nat) (m : Nat → Nat → Bool) (s : Nat → Nat → Nat) (c t : Nat) : Nat → Nat
  | 0 => sStay m s c t
  | w + 1 => sMin W H pace m s c t w (sUp W H pace m s c t w)
def sOne (W H pace : Nat) (m : Nat → Nat → Bool) (s : Nat → Nat → Nat) (c t : Nat) : Nat := if c % W = W - 1 then t else sUp W H pace m s c t 4
def snT (W H pace : Nat) (m : Nat → Nat → Bool) : Nat → Nat → Nat → Nat
  | 0 => fun _ _ => 0
  | r + 1 => fun c t => if t = 95 - r then sOne W H pace m (snT W H pace m r) c t else snT W H pace m r c t
def sn (W H pace : Nat) (m : Nat → Nat → Bool) : Nat → Nat → Nat := snT W H pace m 96
theorem sOne_congr {W H pace : Nat} (hp : 1 ≤ pace) {m : Nat → Nat → Bool} {s s' : Nat → Nat → Nat} {c t : Nat} (h : ∀ q t', t < t' → t' < 96 → s q t' = s' q t') : sOne W H pace m s c t = sOne W H pace m s' c t := by
  have h0 : sStay m s c t = sStay m s' c t := by
    unfold sStay
    by_cases h1 : t + 1 < 96 ∧ m c (t + 1) = true
    · rw [if_pos h1, if_pos h1, h c (t + 1) (by omega) h1.1]
    · rw [if_neg h1, if_neg h1]
  have h1 : ∀ w b, sMin W H pace m s c t w b = sMin W H pace m s' c t w b := by
    intro w b
    unfold sMin
    cases nbr W H c w with
    | none => rfl
    | some q =>
      by_cases h2 : stp pace m q t = true
      · have h3 : t + pace < 96 := by simp [stp] at h2; exact h2.1
        simp only [h2, if_true, h q (t + pace) (by omega) h3]
      · simp only [h2]
        rfl
  have h2 : ∀ w, sUp W H pace m s c t w = sUp W H pace m s' c t w := by
    intro w
    induction w with
    | zero => exact h0
    | succ w ih => show sMin W H pace m s c t w _ = sMin W H pace m s' c t w _; rw [h1, ih]
  unfold sOne
  rw [h2]
theorem snT_ge {W H pace : Nat} {m : Nat → Nat → Bool} (c t : Nat) : ∀ r, 96 - t ≤ r → r ≤ 96 → t < 96 → snT W H pace m r c t = snT W H pace m (96 - t) c t
  | 0, h, _, _ => by omega
  | r + 1, h, h2, h3 => by
    by_cases e : 96 - t = r + 1
    · rw [e]
    · show (if t = 95 - r then _ else snT W H pace m r c t) = _
      rw [if_neg (by omega), snT_ge c t r (by omega) (by omega) h3]
theorem sn_eq {W H pace : Nat} (hp : 1 ≤ pace) {m : Nat → Nat → Bool} {c t : Nat} (ht : t < 96) : sn W H pace m c t = sOne W H pace m (sn W H pace m) c t := by
  unfold sn
  rw [snT_ge c t 96 (by omega) (by omega) ht]
  obtain ⟨r, hr⟩ : ∃ r, 96 - t = r + 1 := ⟨95 - t, by omega⟩
  rw [hr]
  show (if t = 95 - r then _ else _) = _
  rw [if_pos (by omega)]
  refine sOne_congr hp (fun q t' h1 h2 => ?_)
  rw [snT_ge q t' 96 (by omega) (by omega) h2, snT_ge q t' r (by omega) (by omega) h2]
/-- the island that the reference has taken over -/
def RI (I : Nat → Nat → Int32) (W H np len : Nat) : Prop :=
  RQ I W H ∧ (∀ c, c < W * H → (I 1073 c = nI (cN (I 1073 c)) ∧ cN (I 1073 c) ≤ 9) ∧ I 1074 c = nI (cN (I 1074 c)) ∧ cN (I 1074 c) ≤ 2) ∧
  ((-2 ≤ (I 1072 5).toInt ∧ (I 1072 5).toInt ≤ 2) ∧ -2 ≤ (I 1072 6).toInt ∧ (I 1072 6).toInt ≤ 2) ∧
  ((I 1072 7 = nI (cN (I 1072 7)) ∧ cN (I 1072 7) ≤ 9) ∧ (I 1072 8 = nI (cN (I 1072 8)) ∧ 1 ≤ cN (I 1072 8) ∧ cN (I 1072 8) ≤ 6) ∧ I 1072 9 = nI (cN (I 1072 9)) ∧ cN (I 1072 9) ≤ 20) ∧
  (I 1072 10 = nI np ∧ np ≤ 6) ∧
  (∀ p, p < np → (I 1076 p = nI (cN (I 1076 p)) ∧ cN (I 1076 p) ≤ 3) ∧ (I 1077 p = nI (cN (I 1077 p)) ∧ 1 ≤ cN (I 1077 p) ∧ cN (I 1077 p) ≤ 4) ∧ (I 1078 p = nI (cN (I 1078 p)) ∧ cN (I 1078 p) ≤ 9) ∧ (I 1079 p = nI (cN (I 1079 p)) ∧ cN (I 1079 p) < H) ∧ (I 1080 p = nI (cN (I 1080 p)) ∧ cN (I 1080 p) ≤ 20) ∧ I 1081 p = nI (cN (I 1081 p)) ∧ cN (I 1081 p) < 64) ∧
  (I 1072 16 = nI len ∧ len ≤ 700 ∧ wok (I 1082) len ∧ (len = 0 ∨ 0 < wdep (I 1082) len)) ∧
  (∀ f, f < 4 → I 1072 (12 + f) = nI (cN (I 1072 (12 + f))) ∧ cN (I 1072 (12 + f)) ≤ 9) ∧ 0 < cN (I 1072 12) + cN (I 1072 13) + cN (I 1072 14) + cN (I 1072 15)
/-- the reference's island is the same -/
def kp (I J : Nat → Nat → Int32) : Prop := ∀ a, 1072 ≤ a → a ≤ 1082 → J a = I a
theorem RI.kp {I J : Nat → Nat → Int32} {W H np len : Nat} (h : RI I W H np len) (hk : kp I J) : RI J W H np len := by
  unfold RI RQ MT at *
  rw [hk 1072 (by omega) (by omega), hk 1073 (by omega) (by omega), hk 1074 (by omega) (by omega), hk 1075 (by omega) (by omega), hk 1076 (by omega) (by omega), hk 1077 (by omega) (by omega), hk 1078 (by omega) (by omega), hk 1079 (by omega) (by omega), hk 1080 (by omega) (by omega), hk 1081 (by omega) (by omega), hk 1082 (by omega) (by omega)]
  exact h
theorem kp_r (I : Nat → Nat → Int32) : kp I I := fun _ _ _ => rfl
theorem kp_t {I J K : Nat → Nat → Int32} (h1 : kp I J) (h2 : kp J K) : kp I K := fun a q1 q2 => (h2 a q1 q2).trans (h1 a q1 q2)
theorem kp_x {l : List Nat} {I J : Nat → Nat → Int32} (h : eqx l I J) (hl : l.all (fun a => decide (a < 1072 ∨ 1082 < a)) = true) : kp I J := fun a q1 q2 => funext fun j => h a j (fun q => by
  have := List.all_eq_true.mp hl a q
  simp at this
  omega)
theorem kp_u {I J : Nat → Nat → Int32} {a k : Nat} {v : Int32} (h : kp I J) (ha : a < 1072 ∨ 1082 < a) : kp I (upI J a k v) := fun b q1 q2 => funext fun j => (upI_nea' (by omega)).trans (congrFun (h b q1 q2) j)
theorem kp_f {I J : Nat → Nat → Int32} {a k : Nat} {f : Nat → Int32} (h : kp I J) (ha : a < 1072 ∨ 1082 < a) : kp I (fl J a f k) := fun b q1 q2 => funext fun j => (fl_ne (by omega)).trans (congrFun (h b q1 q2) j)
/-- what the reference reckons on, between its answers -/
def scr (b j : Nat) : Bool := decide (1086 ≤ b ∧ b ≤ 1091) || decide (b = 1093) || decide (1099 ≤ b ∧ b ≤ 1101) || decide (b = 1103) || decide (b = 1107 ∨ b = 1108) || decide (b = 1069 ∧ j = 35)
def eqs (I J : Nat → Nat → Int32) : Prop := ∀ b j : Nat, scr b j = false → J b j = I b j
theorem eqs_r (I : Nat → Nat → Int32) : eqs I I := fun _ _ _ => rfl
theorem eqs_t {I J K : Nat → Nat → Int32} (h1 : eqs I J) (h2 : eqs J K) : eqs I K := fun b j h => (h2 b j h).trans (h1 b j h)
theorem eqs_u {I J : Nat → Nat → Int32} {a k : Nat} {v : Int32} (h : eqs I J) (ha : scr a k = true) : eqs I (upI J a k v) := fun b j hb => by
  by_cases e : b = a ∧ j = k
  · rw [e.1, e.2, ha] at hb; cases hb
  · have : upI J a k v b j = J b j := by simp [upI, e]
    rw [this]; exact h b j hb
theorem eqs_kp {I J : Nat → Nat → Int32} (h : eqs I J) : kp I J := fun a q1 q2 => funext fun j => h a j (by
  unfold scr
  simp only [Bool.or_eq_false_iff, decide_eq_false_iff_not]
  omega)
theorem eqs_x {l : List Nat} {I J : Nat → Nat → Int32} (h : eqx l I J) (hl : l.all (fun a => scr a 0) = true) (h9 : 1069 ∉ l) : eqs I J := fun b j hb => h b j (fun q => by
  have q2 := List.all_eq_true.mp hl b q
  have q3 : b ≠ 1069 := fun e => h9 (e ▸ q)
  have : scr b j = scr b 0 := by unfold scr; simp [q3]
  rw [this, q2] at hb
  cases hb)
