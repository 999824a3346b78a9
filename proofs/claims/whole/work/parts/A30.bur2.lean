/-! burials: the reference's search against the fewest days -/
section BU2
variable {T : Nat → Nat → Int32} {W H np len : Nat} {a b : Nat → Nat} {f : Nat → Option (Nat → Nat)}
theorem fstO_some {x : Nat → Nat} : ∀ c lo, fstO f lo c = some x → ∃ d, lo ≤ d ∧ d < lo + c ∧ f d = some x ∧ ∀ e, lo ≤ e → e < d → f e = none
  | 0, lo, h => by cases h
  | c + 1, lo, h => by
    rw [fstO] at h
    cases hf : f lo with
    | some y => rw [hf] at h; exact ⟨lo, Nat.le_refl _, by omega, by rw [hf]; exact h, fun e h1 h2 => absurd h1 (by omega)⟩
    | none =>
      rw [hf] at h
      obtain ⟨d, h1, h2, h3, h4⟩ := fstO_some c (lo + 1) h
      refine ⟨d, by omega, by omega, h3, fun e e1 e2 => ?_⟩
      by_cases z : e = lo
      · rw [z]; exact hf
      · exact h4 e (by omega) e2
theorem fstO_ex {d : Nat} {x : Nat → Nat} (hx : f d = some x) : ∀ c lo, lo ≤ d → d < lo + c → ∃ y, fstO f lo c = some y
  | 0, lo, h1, h2 => absurd h2 (by omega)
  | c + 1, lo, h1, h2 => by
    rw [fstO]
    cases hf : f lo with
    | some y => exact ⟨y, rfl⟩
    | none =>
      refine fstO_ex hx c (lo + 1) ?_ (by omega)
      by_cases z : lo = d
      · rw [z, hx] at hf; cases hf
      · omega
/-- party p may be buried on its day, those before it having theirs -/
def RV (T : Nat → Nat → Int32) (W H len : Nat) (a : Nat → Nat) (p : Nat) : Prop := (cN (T 1080 p) ≤ a p ∧ a p ≤ bEnd T p) ∧ cnD T W H len p (a p) = true ∧ cntN (fun k => decide (a k = a p)) p < cN (T 1072 8) ∧ bQu T p (a p) a = false
def ndN (a : Nat → Nat) (p : Nat) : Nat := if cntN (fun k => decide (a k = a p)) p = 0 then 1 else 0
def dyN (a : Nat → Nat) : Nat → Nat
  | 0 => 0
  | p + 1 => dyN a p + ndN a p
theorem cnt_c {p d : Nat} (h : ∀ k, k < p → a k = b k) : cntN (fun k => decide (a k = d)) p = cntN (fun k => decide (b k = d)) p := cntN_cc p (fun k hk => by rw [h k hk])
theorem bQu_c {p d : Nat} (h : ∀ k, k < p → a k = b k) : bQu T p d a = bQu T p d b := by
  unfold bQu
  exact anyN_c (fun k hk => by rw [h k hk])
theorem ndN_c {p : Nat} (h : ∀ k, k < p + 1 → a k = b k) : ndN a p = ndN b p := by
  unfold ndN
  rw [h p (by omega), cnt_c (fun k hk => h k (by omega))]
theorem dyN_c : ∀ p, (∀ k, k < p → a k = b k) → dyN a p = dyN b p
  | 0, _ => rfl
  | p + 1, h => by rw [dyN, dyN, dyN_c p (fun k hk => h k (by omega)), ndN_c h]
theorem dyN_m {p : Nat} : ∀ q, p ≤ q → dyN a p ≤ dyN a q
  | 0, h => by rw [Nat.le_zero.mp h]; exact Nat.le_refl _
  | q + 1, h => by
    by_cases z : p = q + 1
    · rw [z]; exact Nat.le_refl _
    · have := dyN_m (p := p) q (by omega)
      rw [dyN]; omega
theorem dyN_le : ∀ q, dyN a q ≤ q
  | 0 => Nat.le_refl _
  | q + 1 => by
    have := dyN_le q
    rw [dyN]
    unfold ndN
    split <;> omega
theorem upN_s {dt : Nat → Nat} {p d : Nat} : upN dt p d p = d := by unfold upN; rw [if_pos rfl]
theorem upN_o {dt : Nat → Nat} {p d k : Nat} (h : k ≠ p) : upN dt p d k = dt k := by unfold upN; rw [if_neg h]
theorem bry_ok : ∀ r p left (dt mo : Nat → Nat), p + r = np → (∀ d, mo d = cntN (fun k => decide (dt k = d)) p) → (∀ d, mo d ≤ cN (T 1072 8)) →
    (∀ res, bry T W H len r p left dt mo = some res → (∀ k, k < p → res k = dt k) ∧ (∀ q, p ≤ q → q < np → RV T W H len res q) ∧ dyN res np ≤ dyN dt p + left) ∧
    (∀ a, (∀ k, k < p → a k = dt k) → (∀ q, p ≤ q → q < np → RV T W H len a q) → dyN a np ≤ dyN dt p + left → ∃ res, bry T W H len r p left dt mo = some res ∧ ∀ q, p ≤ q → q < np → (∀ k, k < q → a k = res k) → res q ≤ a q)
  | 0, p, left, dt, mo, hp, _, _ => by
    have hp : p = np := by omega
    subst hp
    refine ⟨fun res h => ?_, fun a _ _ _ => ⟨dt, rfl, fun q h1 h2 => absurd h1 (by omega)⟩⟩
    cases h
    exact ⟨fun _ _ => rfl, fun q h1 h2 => absurd h1 (by omega), by omega⟩
  | r + 1, p, left, dt, mo, hp, hmo, hm8 => by
    have ev : bry T W H len (r + 1) p left dt mo = fstO (fun d => if bOk T W H len p d left dt mo = true then bry T W H len r (p + 1) (left - mor mo d) (upN dt p d) (upN mo d (mo d + 1)) else none) (cN (T 1080 p)) (bEnd T p + 1 - cN (T 1080 p)) := rfl
    have hok : ∀ d, bOk T W H len p d left dt mo = true → cnD T W H len p d = true ∧ mo d < cN (T 1072 8) ∧ mor mo d ≤ left ∧ bQu T p d dt = false := fun d h => by
      unfold bOk at h
      simp only [Bool.and_eq_true, Bool.not_eq_true', decide_eq_false_iff_not] at h
      obtain ⟨⟨⟨h1, h2⟩, h3⟩, h4⟩ := h
      have := hm8 d
      exact ⟨h1, by omega, by omega, h4⟩
    have hmo2 : ∀ d e, upN mo d (mo d + 1) e = cntN (fun k => decide (upN dt p d k = e)) (p + 1) := fun d e => by
      rw [cntN, upN_s, cntN_cc (g := fun k => decide (dt k = e)) p (fun k hk => by rw [upN_o (by omega)]), ← hmo e]
      by_cases z : e = d
      · rw [z, upN_s, decide_eq_true rfl, if_pos rfl]
      · rw [upN_o z, decide_eq_false (fun q => z q.symm), if_neg (by decide), Nat.add_zero]
    have hnd : ∀ d, ndN (upN dt p d) p = mor mo d := fun d => by
      unfold ndN mor
      rw [upN_s, cntN_cc (g := fun k => decide (dt k = d)) p (fun k hk => by rw [upN_o (by omega)]), ← hmo d]
    have hdy : ∀ d, dyN (upN dt p d) (p + 1) = dyN dt p + mor mo d := fun d => by
      rw [dyN, hnd, dyN_c p (fun k hk => upN_o (by omega))]
    have ih : ∀ d, bOk T W H len p d left dt mo = true → _ := fun d hd => bry_ok r (p + 1) (left - mor mo d) (upN dt p d) (upN mo d (mo d + 1)) (by omega) (hmo2 d) (fun e => by
      by_cases z : e = d
      · rw [z, upN_s]; have := (hok d hd).2.1; omega
      · rw [upN_o z]; exact hm8 e)
    have h1 : ∀ res d, cN (T 1080 p) ≤ d → d ≤ bEnd T p → bOk T W H len p d left dt mo = true → bry T W H len r (p + 1) (left - mor mo d) (upN dt p d) (upN mo d (mo d + 1)) = some res → (∀ k, k < p → res k = dt k) ∧ res p = d ∧ (∀ q, p ≤ q → q < np → RV T W H len res q) ∧ dyN res np ≤ dyN dt p + left := fun res d d1 d2 hd he => by
      obtain ⟨c1, c2, c3⟩ := (ih d hd).1 res he
      obtain ⟨o1, o2, o3, o4⟩ := hok d hd
      have e1 : ∀ k, k < p → res k = dt k := fun k hk => (c1 k (by omega)).trans (upN_o (by omega))
      have e2 : res p = d := (c1 p (by omega)).trans upN_s
      refine ⟨e1, e2, fun q q1 q2 => ?_, ?_⟩
      · by_cases z : q = p
        · subst z
          unfold RV
          rw [e2, cnt_c e1, ← hmo d, bQu_c e1]
          exact ⟨⟨d1, d2⟩, o1, o2, o4⟩
        · exact c2 q (by omega) q2
      · rw [hdy d] at c3; omega
    refine ⟨fun res h => ?_, fun a h2 h3 h4 => ?_⟩
    · rw [ev] at h
      obtain ⟨d, d1, d2, d3, -⟩ := fstO_some _ _ h
      have d3 : (if bOk T W H len p d left dt mo = true then bry T W H len r (p + 1) (left - mor mo d) (upN dt p d) (upN mo d (mo d + 1)) else none) = some res := d3
      by_cases hd : bOk T W H len p d left dt mo = true
      · rw [if_pos hd] at d3
        obtain ⟨c1, c2, c3, c4⟩ := h1 res d d1 (by omega) hd d3
        exact ⟨c1, c3, c4⟩
      · rw [if_neg hd] at d3; cases d3
    · obtain ⟨⟨v1, v2⟩, v3, v4, v5⟩ := h3 p (Nat.le_refl _) (by omega)
      have hag : ∀ k, k < p + 1 → a k = upN dt p (a p) k := fun k hk => by
        by_cases z : k = p
        · rw [z, upN_s]
        · rw [upN_o z]; exact h2 k (by omega)
      have hmo0 : mo (a p) = cntN (fun k => decide (a k = a p)) p := by rw [hmo, cnt_c (fun k hk => (h2 k hk).symm)]
      have hmor : dyN dt p + mor mo (a p) ≤ dyN a np := by
        rw [← hdy, ← dyN_c (p + 1) hag]
        exact dyN_m np (by omega)
      have hd : bOk T W H len p (a p) left dt mo = true := by
        unfold bOk
        rw [v3, decide_eq_false (by omega), decide_eq_false (by omega), ← bQu_c h2, v5]; rfl
      obtain ⟨res0, r1, r2⟩ := (ih (a p) hd).2 a hag (fun q q1 q2 => h3 q (by omega) q2) (by rw [hdy]; omega)
      have hf : (fun d => if bOk T W H len p d left dt mo = true then bry T W H len r (p + 1) (left - mor mo d) (upN dt p d) (upN mo d (mo d + 1)) else none) (a p) = some res0 := by
        dsimp only
        rw [if_pos hd]; exact r1
      obtain ⟨res, hr⟩ := fstO_ex (f := fun d => if bOk T W H len p d left dt mo = true then bry T W H len r (p + 1) (left - mor mo d) (upN dt p d) (upN mo d (mo d + 1)) else none) hf (bEnd T p + 1 - cN (T 1080 p)) (cN (T 1080 p)) v1 (by omega)
      refine ⟨res, by rw [ev]; exact hr, fun q q1 q2 q3 => ?_⟩
      obtain ⟨d, d1, d2, d3, d4⟩ := fstO_some _ _ hr
      have d3 : (if bOk T W H len p d left dt mo = true then bry T W H len r (p + 1) (left - mor mo d) (upN dt p d) (upN mo d (mo d + 1)) else none) = some res := d3
      have hle : d ≤ a p := by
        by_cases z : d ≤ a p
        · exact z
        · have := d4 (a p) v1 (by omega)
          have := hf.symm.trans this
          cases this
      by_cases hd2 : bOk T W H len p d left dt mo = true
      · rw [if_pos hd2] at d3
        have e2 := (h1 res d d1 (by omega) hd2 d3).2.1
        by_cases z : q = p
        · rw [z, e2]; exact hle
        · have e3 : d = a p := by rw [← e2]; exact (q3 p (by omega)).symm
          rw [e3, r1] at d3
          cases d3
          exact r2 q (by omega) q2 q3
      · rw [if_neg hd2] at d3; cases d3
def opT (T : Nat → Nat → Int32) (W H np len p d : Nat) : Bool := decide (p < np) && (cnD T W H len p d && decide (d ≤ bEnd T p))
def togT (T : Nat → Nat → Int32) (np S : Nat) : Bool := decide (cntN (fun p => S.testBit p) 6 ≤ cN (T 1072 8)) && !(anyN (fun p => S.testBit p && decide (cN (T 1081 p) &&& S ≠ 0)) np)
/-- quarrels are of two, and both have them -/
def QS (T : Nat → Nat → Int32) (np : Nat) : Prop := ∀ p, p < np → ∀ q, (cN (T 1081 p)).testBit q = true → q < np ∧ q ≠ p ∧ (cN (T 1081 q)).testBit p = true
theorem grE_bit {e p : Nat} (hp : p < 6) : (grD a (2 ^ np - 1) e).testBit p = (decide (p < np) && decide (a p = e)) := by rw [grD_bit hp, Nat.testBit_two_pow_sub_one]
theorem cnt_d {g : Nat → Bool} {n : Nat} : ∀ m, n ≤ m → cntN (fun p => decide (p < n) && g p) m = cntN g n
  | 0, h => by rw [Nat.le_zero.mp h]; rfl
  | m + 1, h => by
    by_cases z : n = m + 1
    · rw [z]
      exact cntN_cc (m + 1) (fun i hi => by rw [decide_eq_true hi, Bool.true_and])
    · rw [cntN, cnt_d m (by omega), decide_eq_false (by omega)]; rfl
theorem cnt_0 {g : Nat → Bool} : ∀ n, cntN g n = 0 ↔ anyN g n = false
  | 0 => ⟨fun _ => rfl, fun _ => rfl⟩
  | n + 1 => by
    have ih := cnt_0 (g := g) n
    rw [cntN, anyN]
    cases h : g n
    · rw [if_neg (by decide), Bool.or_false]; exact ih
    · rw [if_pos rfl, Bool.or_true]; constructor <;> intro q
      · omega
      · cases q
theorem cnt_mo {g : Nat → Bool} {n : Nat} : ∀ m, n ≤ m → cntN g n ≤ cntN g m
  | 0, h => by rw [Nat.le_zero.mp h]; exact Nat.le_refl _
  | m + 1, h => by
    by_cases z : n = m + 1
    · rw [z]; exact Nat.le_refl _
    · have := cnt_mo (g := g) (n := n) m (by omega)
      rw [cntN]; omega
theorem cnt_f : ∀ n, cntN (fun _ => false) n = 0
  | 0 => rfl
  | n + 1 => by rw [cntN, cnt_f n, if_neg (by decide)]
theorem dy_cnt (N : Nat) : ∀ n, (∀ k, k < n → a k < N) → cntN (fun e => anyN (fun k => decide (a k = e)) n) N = dyN a n
  | 0, _ => (cntN_cc (g := fun _ => false) N (fun _ _ => rfl)).trans (cnt_f N)
  | n + 1, h => by
    have ih := dy_cnt N n (fun k hk => h k (by omega))
    rw [dyN, ← ih]
    unfold ndN
    by_cases z : anyN (fun k => decide (a k = a n)) n = true
    · rw [if_neg (fun q => by rw [(cnt_0 n).mp q] at z; cases z)]
      refine cntN_cc N (fun e _ => ?_)
      rw [anyN]
      by_cases y : a n = e
      · rw [← y, z]; rfl
      · rw [decide_eq_false y, Bool.or_false]
    · have z := Bool.eq_false_iff.mpr z
      rw [if_pos ((cnt_0 n).mpr z), cntN_1 (f := fun e => anyN (fun k => decide (a k = e)) n) (c := a n) z (by rw [anyN, decide_eq_true rfl, Bool.or_true]) (fun e he => by rw [anyN, decide_eq_false (fun q => he q.symm), Bool.or_false]) N, if_pos (h n (by omega))]
theorem grE_0 {e : Nat} (hn : np ≤ 6) : decide (grD a (2 ^ np - 1) e ≠ 0) = anyN (fun k => decide (a k = e)) np := by
  cases h : anyN (fun k => decide (a k = e)) np
  · have := anyN_f.mp h
    refine decide_eq_false (fun q => q (set_0 grD_lt (fun p hp => ?_)))
    rw [grE_bit hp]
    by_cases y : p < np
    · rw [this p y, Bool.and_false]
    · rw [decide_eq_false y]; rfl
  · obtain ⟨k, hk, hk2⟩ := anyN_iff.mp h
    refine decide_eq_true (fun q => ?_)
    have : (grD a (2 ^ np - 1) e).testBit k = true := by rw [grE_bit (by omega), decide_eq_true hk, hk2]; rfl
    rw [q, Nat.zero_testBit] at this; cases this
theorem bEnd_40 {p : Nat} : bEnd T p ≤ 40 := by unfold bEnd; split <;> omega
theorem bit_ex {x : Nat} (hx : x < 64) (h : x ≠ 0) : ∃ p, p < 6 ∧ x.testBit p = true := by
  by_cases z : ∃ p, p < 6 ∧ x.testBit p = true
  · exact z
  · exact absurd (set_0 hx (fun p hp => Bool.eq_false_iff.mpr (fun q => z ⟨p, hp, q⟩))) h
theorem val_A (hn : np ≤ 6) (hQ : QS T np) (h : ∀ q, q < np → RV T W H len a q) : Plan (opT T W H np len) (togT T np) 41 (2 ^ np - 1) a (dyN a np) := by
  have h41 : ∀ k, k < np → a k < 41 := fun k hk => by have := (h k hk).1.2; have := bEnd_40 (T := T) (p := k); omega
  refine ⟨fun p hp hb => ?_, fun e he => ?_, ?_⟩
  · rw [Nat.testBit_two_pow_sub_one] at hb
    have hb := of_decide_eq_true hb
    refine ⟨h41 p hb, ?_⟩
    unfold opT
    rw [decide_eq_true hb, (h p hb).2.1, decide_eq_true (h p hb).1.2]; rfl
  · unfold togT
    have c1 : ∀ n, n ≤ np → cntN (fun k => decide (a k = e)) n ≤ cN (T 1072 8) := fun n => by
      induction n with
      | zero => intro _; exact Nat.zero_le _
      | succ n ih =>
        intro hn'
        rw [cntN]
        by_cases z : a n = e
        · have := (h n (by omega)).2.2.1
          rw [z] at this
          rw [decide_eq_true z, if_pos rfl]; omega
        · rw [decide_eq_false z, if_neg (by decide)]; exact ih (by omega)
    have c2 : cntN (fun p => (grD a (2 ^ np - 1) e).testBit p) 6 = cntN (fun k => decide (a k = e)) np := by
      rw [cntN_cc 6 (fun p hp => grE_bit hp)]; exact cnt_d 6 hn
    rw [c2, decide_eq_true (c1 np (Nat.le_refl _)), Bool.true_and, Bool.not_eq_true']
    refine anyN_f.mpr (fun p hp => ?_)
    by_cases hg : (grD a (2 ^ np - 1) e).testBit p = true
    · rw [hg, Bool.true_and]
      refine decide_eq_false (fun hne => ?_)
      obtain ⟨q, hq6, hq⟩ := bit_ex (Nat.lt_of_le_of_lt Nat.and_le_right grD_lt) hne
      rw [Nat.testBit_and] at hq
      obtain ⟨q1, q2⟩ := Bool.and_eq_true_iff.mp hq
      rw [grE_bit hq6] at q2
      obtain ⟨q3, q4⟩ := Bool.and_eq_true_iff.mp q2
      have q3 := of_decide_eq_true q3
      have q4 := of_decide_eq_true q4
      rw [grE_bit (by omega)] at hg
      have hg := of_decide_eq_true (Bool.and_eq_true_iff.mp hg).2
      obtain ⟨s1, s2, s3⟩ := hQ p hp q q1
      have bad : ∀ x y, x < y → y < np → a x = a y → (cN (T 1081 y)).testBit x = true → False := fun x y hxy hy hxa hb => by
        have := (h y hy).2.2.2
        unfold bQu at this
        have := anyN_f.mp this x hxy
        rw [hb, decide_eq_true hxa] at this; cases this
      by_cases z : q < p
      · exact bad q p z hp (by rw [q4, hg]) q1
      · exact bad p q (by omega) q3 (by rw [q4, hg]) s3
    · rw [Bool.eq_false_iff.mpr hg]; rfl
  · rw [← dy_cnt 41 np h41]
    exact cntN_cc 41 (fun e _ => (grE_0 hn).symm)
theorem val_B {k : Nat} (hn : np ≤ 6) (h : Plan (opT T W H np len) (togT T np) 41 (2 ^ np - 1) a k) : (∀ q, q < np → RV T W H len a q) ∧ k = dyN a np := by
  obtain ⟨p1, p2, p3⟩ := h
  have hb : ∀ p, p < np → a p < 41 ∧ opT T W H np len p (a p) = true := fun p hp => p1 p (by omega) (by rw [Nat.testBit_two_pow_sub_one]; exact decide_eq_true hp)
  refine ⟨fun q hq => ?_, ?_⟩
  · obtain ⟨b1, b2⟩ := hb q hq
    unfold opT at b2
    rw [decide_eq_true hq, Bool.true_and] at b2
    obtain ⟨b3, b4⟩ := Bool.and_eq_true_iff.mp b2
    have ht := p2 (a q) b1
    unfold togT at ht
    obtain ⟨t1, t2⟩ := Bool.and_eq_true_iff.mp ht
    have t1 := of_decide_eq_true t1
    have c2 : cntN (fun p => (grD a (2 ^ np - 1) (a q)).testBit p) 6 = cntN (fun k => decide (a k = a q)) np := by
      rw [cntN_cc 6 (fun p hp => grE_bit hp)]; exact cnt_d 6 hn
    rw [c2] at t1
    have c3 := cnt_mo (g := fun k => decide (a k = a q)) (n := q + 1) np (by omega)
    have c4 : cntN (fun k => decide (a k = a q)) (q + 1) = cntN (fun k => decide (a k = a q)) q + 1 := by rw [cntN, decide_eq_true rfl, if_pos rfl]
    refine ⟨⟨(cnD_lt b3).1, of_decide_eq_true b4⟩, b3, by omega, ?_⟩
    unfold bQu
    refine anyN_f.mpr (fun x hx => ?_)
    by_cases z : a x = a q
    · rw [decide_eq_true z, Bool.true_and]
      refine Bool.eq_false_iff.mpr (fun hbx => ?_)
      have t3 := anyN_f.mp ((Bool.not_eq_true' _).mp t2) q hq
      have g1 : (grD a (2 ^ np - 1) (a q)).testBit q = true := by rw [grE_bit (by omega), decide_eq_true hq, decide_eq_true rfl]; rfl
      have g2 : (grD a (2 ^ np - 1) (a q)).testBit x = true := by rw [grE_bit (by omega), decide_eq_true (by omega), decide_eq_true z]; rfl
      rw [g1, Bool.true_and] at t3
      have t3 := of_decide_eq_false t3
      refine t3 (fun q0 => ?_)
      have : (cN (T 1081 q) &&& grD a (2 ^ np - 1) (a q)).testBit x = true := by rw [Nat.testBit_and, hbx, g2]; rfl
      rw [q0, Nat.zero_testBit] at this; cases this
    · rw [decide_eq_false z]; rfl
  · rw [p3, ← dy_cnt 41 np (fun k hk => (hb k hk).1)]
    exact cntN_cc 41 (fun e _ => grE_0 hn)
end BU2
