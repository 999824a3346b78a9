/-! burials: the fewest days, by sets of parties -/
section BU1
variable {f g : Nat → Bool} {F : Nat → Nat} {tog : Nat → Bool} {op : Nat → Nat → Bool} {ab : Nat → Nat} {S m d k np : Nat} {a : Nat → Nat}
def sN (f : Nat → Bool) : Nat → Nat
  | 0 => 0
  | k + 1 => sN f k ||| (if f k = true then 2 ^ k else 0)
theorem sN_bit (f : Nat → Bool) (p : Nat) : ∀ n, (sN f n).testBit p = (decide (p < n) && f p)
  | 0 => by rw [sN, Nat.zero_testBit, decide_eq_false (Nat.not_lt_zero p)]; rfl
  | n + 1 => by
    rw [sN, Nat.testBit_or, sN_bit f p n]
    by_cases z : p = n
    · subst z
      rw [decide_eq_false (Nat.lt_irrefl p), decide_eq_true (Nat.lt_succ_self p)]
      cases h : f p
      · rw [if_neg (by decide), Nat.zero_testBit]; rfl
      · rw [if_pos rfl, Nat.testBit_two_pow_self]; rfl
    · have e : (if f n = true then 2 ^ n else 0).testBit p = false := by
        split
        · rw [Nat.testBit_two_pow]; exact decide_eq_false (fun q => z q.symm)
        · exact Nat.zero_testBit p
      rw [e, Bool.or_false]
      congr 1
      exact decide_eq_decide.mpr (by omega)
theorem sN_c : ∀ n, (∀ p, p < n → f p = g p) → sN f n = sN g n
  | 0, _ => rfl
  | n + 1, h => by rw [sN, sN, sN_c n (fun p hp => h p (by omega)), h n (by omega)]
theorem sN_lt : ∀ n, sN f n < 2 ^ n
  | 0 => Nat.one_pos
  | n + 1 => by
    rw [sN]
    have h1 := sN_lt n
    refine Nat.or_lt_two_pow (Nat.lt_of_lt_of_le h1 (Nat.pow_le_pow_right (by decide) (by omega))) ?_
    split
    · exact Nat.pow_lt_pow_right (by decide) (by omega)
    · exact Nat.two_pow_pos _
theorem bit_ge {x p : Nat} (hx : x < 64) (hp : 6 ≤ p) : x.testBit p = false := Nat.testBit_lt_two_pow (Nat.lt_of_lt_of_le hx (show 2 ^ 6 ≤ 2 ^ p from Nat.pow_le_pow_right (by decide) hp))
theorem set_ext {x y : Nat} (hx : x < 64) (hy : y < 64) (h : ∀ p, p < 6 → x.testBit p = y.testBit p) : x = y := Nat.eq_of_testBit_eq (fun p => by
  by_cases q : p < 6
  · exact h p q
  · rw [bit_ge hx (by omega), bit_ge hy (by omega)])
theorem set_0 {x : Nat} (hx : x < 64) (h : ∀ p, p < 6 → x.testBit p = false) : x = 0 := set_ext hx (by decide) (fun p hp => by rw [h p hp, Nat.zero_testBit])
abbrev gqV (tog : Nat → Bool) (m x : Nat) : Prop := x ≠ 0 ∧ x &&& m = x ∧ tog x = true
/-- the fewest for S, the parts of m from 64 - j on being tried -/
def gq (F : Nat → Nat) (tog : Nat → Bool) (S m : Nat) : Nat → Nat
  | 0 => F S
  | j + 1 => if gqV tog m (63 - j) then min (gq F tog S m j) (F (S ^^^ (63 - j)) + 1) else gq F tog S m j
theorem gq_le0 : ∀ j, gq F tog S m j ≤ F S
  | 0 => Nat.le_refl _
  | j + 1 => by
    rw [gq]
    have := gq_le0 j
    split
    · exact Nat.le_trans (Nat.min_le_left _ _) this
    · exact this
theorem gq_le {x : Nat} (hx : gqV tog m x) (h64 : x < 64) : ∀ j, j ≤ 64 → 64 ≤ x + j → gq F tog S m j ≤ F (S ^^^ x) + 1
  | 0, _, h => absurd h (by omega)
  | j + 1, hj, h => by
    rw [gq]
    by_cases z : 63 - j = x
    · rw [z, if_pos hx]; exact Nat.min_le_right _ _
    · have ih := gq_le hx h64 j (by omega) (by omega)
      split
      · exact Nat.le_trans (Nat.min_le_left _ _) ih
      · exact ih
theorem gq_is : ∀ j, j ≤ 64 → gq F tog S m j = F S ∨ ∃ x, x < 64 ∧ gqV tog m x ∧ gq F tog S m j = F (S ^^^ x) + 1
  | 0, _ => Or.inl rfl
  | j + 1, hj => by
    have ih := gq_is j (by omega)
    rw [gq]
    split
    · rename_i hx
      by_cases q : gq F tog S m j ≤ F (S ^^^ (63 - j)) + 1
      · rw [Nat.min_eq_left q]; exact ih
      · rw [Nat.min_eq_right (by omega)]; exact Or.inr ⟨63 - j, by omega, hx, rfl⟩
    · exact ih
/-- nothing is tried between -/
theorem gq_skip {i : Nat} : ∀ j, i ≤ j → j ≤ 64 → (∀ x, 64 - j ≤ x → x < 64 - i → ¬ gqV tog m x) → gq F tog S m j = gq F tog S m i
  | 0, h, _, _ => by rw [Nat.le_zero.mp h]
  | j + 1, h, hj, hn => by
    by_cases z : i = j + 1
    · rw [z]
    · rw [gq, if_neg (hn (63 - j) (by omega) (by omega))]
      exact gq_skip j (by omega) (by omega) (fun x h1 h2 => hn x (by omega) h2)
def fw (tog : Nat → Bool) (ab : Nat → Nat) : Nat → Nat → Nat
  | 0, S => if S = 0 then 0 else 99
  | d + 1, S => gq (fw tog ab d) tog S (S &&& ab d) 64
theorem fw_99 : ∀ d S, fw tog ab d S ≤ 99
  | 0, S => by rw [fw]; split <;> omega
  | d + 1, S => by rw [fw]; exact Nat.le_trans (gq_le0 64) (fw_99 d S)
/-- who of S is on day e -/
def grD (a : Nat → Nat) (S e : Nat) : Nat := sN (fun p => S.testBit p && decide (a p = e)) 6
theorem grD_bit {e p : Nat} (hp : p < 6) : (grD a S e).testBit p = (S.testBit p && decide (a p = e)) := by unfold grD; rw [sN_bit, decide_eq_true hp, Bool.true_and]
theorem grD_lt {e : Nat} : grD a S e < 64 := sN_lt 6
def Plan (op : Nat → Nat → Bool) (tog : Nat → Bool) (d S : Nat) (a : Nat → Nat) (k : Nat) : Prop := (∀ p, p < 6 → S.testBit p = true → a p < d ∧ op p (a p) = true) ∧ (∀ e, e < d → tog (grD a S e) = true) ∧ k = cntN (fun e => decide (grD a S e ≠ 0)) d
def abO (op : Nat → Nat → Bool) (ab : Nat → Nat) : Prop := ∀ d p, p < 6 → (ab d).testBit p = op p d
theorem sub_bit {x S b p : Nat} (hx : x &&& (S &&& b) = x) (hp : x.testBit p = true) : S.testBit p = true ∧ b.testBit p = true := by
  rw [← hx, Nat.testBit_and, Nat.testBit_and] at hp
  have := Bool.and_eq_true_iff.mp hp
  exact Bool.and_eq_true_iff.mp this.2
theorem fw_A (h0 : tog 0 = true) (hab : abO op ab) : ∀ d S, S < 64 → fw tog ab d S < 99 → ∃ a, Plan op tog d S a (fw tog ab d S)
  | 0, S, hS, hl => by
    rw [fw] at hl ⊢
    by_cases z : S = 0
    · subst z
      refine ⟨fun _ => 0, ⟨fun p _ hp => ?_, fun e he => absurd he (Nat.not_lt_zero e), rfl⟩⟩
      rw [Nat.zero_testBit] at hp; cases hp
    · rw [if_neg z] at hl; omega
  | d + 1, S, hS, hl => by
    have hq := gq_is (F := fw tog ab d) (tog := tog) (S := S) (m := S &&& ab d) 64 (Nat.le_refl _)
    rw [fw] at hl ⊢
    rcases hq with hq | ⟨x, hx64, hx, hq⟩
    · rw [hq] at hl ⊢
      obtain ⟨a, p1, p2, p3⟩ := fw_A h0 hab d S hS hl
      have hg : grD a S d = 0 := set_0 grD_lt (fun p hp => by
        rw [grD_bit hp]
        cases hb : S.testBit p
        · rfl
        · rw [decide_eq_false (fun q => by have := (p1 p hp hb).1; omega)]; rfl)
      refine ⟨a, fun p hp hb => ⟨by have := (p1 p hp hb).1; omega, (p1 p hp hb).2⟩, fun e he => ?_, ?_⟩
      · by_cases z : e = d
        · rw [z, hg]; exact h0
        · exact p2 e (by omega)
      · rw [cntN, hg, ← p3]; simp
    · rw [hq] at hl ⊢
      have hSx : S ^^^ x < 64 := Nat.xor_lt_two_pow (n := 6) hS hx64
      obtain ⟨a, p1, p2, p3⟩ := fw_A h0 hab d (S ^^^ x) hSx (by omega)
      have hb : ∀ p, x.testBit p = true → S.testBit p = true ∧ (ab d).testBit p = true := fun p hp => sub_bit hx.2.1 hp
      have g1 : ∀ e, e < d → grD (fun p => if x.testBit p = true then d else a p) S e = grD a (S ^^^ x) e := fun e he => sN_c 6 (fun p hp => by
        rw [Nat.testBit_xor]
        by_cases hxp : x.testBit p = true
        · have e2 : decide ((fun p => if x.testBit p = true then d else a p) p = e) = false := decide_eq_false (by dsimp only; rw [if_pos hxp]; omega)
          rw [e2, hxp, (hb p hxp).1]; rfl
        · have e2 : decide ((fun p => if x.testBit p = true then d else a p) p = e) = decide (a p = e) := decide_eq_decide.mpr (by dsimp only; rw [if_neg hxp])
          rw [e2, Bool.eq_false_iff.mpr hxp, Bool.xor_false])
      have g2 : grD (fun p => if x.testBit p = true then d else a p) S d = x := set_ext grD_lt hx64 (fun p hp => by
        rw [grD_bit hp]
        cases hxp : x.testBit p
        · rw [if_neg (by decide)]
          cases hs : S.testBit p
          · rfl
          · have := (p1 p hp (by rw [Nat.testBit_xor, hs, hxp]; rfl)).1
            rw [decide_eq_false (by omega)]; rfl
        · rw [if_pos rfl, (hb p hxp).1, decide_eq_true rfl]; rfl)
      refine ⟨fun p => if x.testBit p = true then d else a p, fun p hp hs => ?_, fun e he => ?_, ?_⟩
      · dsimp only
        cases hxp : x.testBit p
        · rw [if_neg (by decide)]
          have := p1 p hp (by rw [Nat.testBit_xor, hs, hxp]; rfl)
          exact ⟨by omega, this.2⟩
        · rw [if_pos rfl]; exact ⟨by omega, by rw [← hab d p hp]; exact (hb p hxp).2⟩
      · by_cases z : e = d
        · rw [z, g2]; exact hx.2.2
        · rw [g1 e (by omega)]; exact p2 e (by omega)
      · rw [cntN, g2, decide_eq_true hx.1, if_pos rfl, cntN_cc d (fun e he => by rw [g1 e he]), ← p3]
theorem fw_B (hab : abO op ab) : ∀ d S a k, S < 64 → Plan op tog d S a k → fw tog ab d S ≤ k
  | 0, S, a, k, hS, hp => by
    obtain ⟨p1, p2, p3⟩ := hp
    have : S = 0 := set_0 hS (fun p hp => by
      cases hb : S.testBit p
      · rfl
      · exact absurd (p1 p hp hb).1 (Nat.not_lt_zero _))
    rw [fw, if_pos this]; exact Nat.zero_le _
  | d + 1, S, a, k, hS, hp => by
    obtain ⟨p1, p2, p3⟩ := hp
    rw [fw]
    rw [cntN] at p3
    by_cases z : grD a S d = 0
    · have hn : ∀ p, p < 6 → S.testBit p = true → a p ≠ d := fun p hp hb q => by
        have : (grD a S d).testBit p = true := by rw [grD_bit hp, hb, decide_eq_true q]; rfl
        rw [z, Nat.zero_testBit] at this; cases this
      refine Nat.le_trans (gq_le0 64) (fw_B hab d S a k hS ⟨fun p hp hb => ⟨?_, (p1 p hp hb).2⟩, fun e he => p2 e (by omega), ?_⟩)
      · have := (p1 p hp hb).1; have := hn p hp hb; omega
      · rw [p3, z]; simp
    · have hbx : ∀ p, p < 6 → (grD a S d).testBit p = true → S.testBit p = true ∧ a p = d := fun p hp hb => by
        rw [grD_bit hp] at hb
        have := Bool.and_eq_true_iff.mp hb
        exact ⟨this.1, of_decide_eq_true this.2⟩
      have hv : gqV tog (S &&& ab d) (grD a S d) := by
        refine ⟨z, set_ext (Nat.lt_of_le_of_lt Nat.and_le_left grD_lt) grD_lt (fun p hp => ?_), p2 d (by omega)⟩
        rw [Nat.testBit_and, Nat.testBit_and]
        cases hb : (grD a S d).testBit p
        · rfl
        · obtain ⟨c1, c2⟩ := hbx p hp hb
          have := (p1 p hp c1).2
          rw [c2, ← hab d p hp] at this
          rw [c1, this]; rfl
      have hSx : S ^^^ grD a S d < 64 := Nat.xor_lt_two_pow (n := 6) hS grD_lt
      have g1 : ∀ e, e < d → grD a (S ^^^ grD a S d) e = grD a S e := fun e he => sN_c 6 (fun p hp => by
        rw [Nat.testBit_xor]
        cases hb : (grD a S d).testBit p
        · simp
        · obtain ⟨c1, c2⟩ := hbx p hp hb
          rw [c1, c2, decide_eq_false (show ¬ d = e by omega)]; rfl)
      have ih := fw_B hab d (S ^^^ grD a S d) a (cntN (fun e => decide (grD a S e ≠ 0)) d) hSx ⟨fun p hp hb => ?_, fun e he => by rw [g1 e he]; exact p2 e (by omega), cntN_cc d (fun e he => by rw [g1 e he])⟩
      · refine Nat.le_trans (gq_le hv grD_lt 64 (Nat.le_refl _) (by omega)) ?_
        rw [p3, decide_eq_true z, if_pos rfl]; omega
      · rw [Nat.testBit_xor] at hb
        cases hg : (grD a S d).testBit p
        · rw [hg, Bool.xor_false] at hb
          have h1 := p1 p hp hb
          have : a p ≠ d := fun q => by
            rw [grD_bit hp, hb, decide_eq_true q] at hg; cases hg
          exact ⟨by omega, h1.2⟩
        · rw [hg, (hbx p hp hg).1] at hb; cases hb
end BU1
