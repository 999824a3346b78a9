/-! the queue: those who died sooner come sooner -/
section QU
variable {T : Nat → Nat → Int32} {W H np len d : Nat}
def bstQ (T : Nat → Nat → Int32) (W H len d left dd p bu : Nat) : Nat := if (cN (T 1080 p) = dd ∧ left.testBit p = true) ∧ qOk T W H len d p bu = true then bu ||| (1 <<< p) else bu
def bInQ (T : Nat → Nat → Int32) (W H len d left dd bu : Nat) : Nat → Nat
  | 0 => bu
  | k + 1 => bstQ T W H len d left dd k (bInQ T W H len d left dd bu k)
def bOutQ (T : Nat → Nat → Int32) (W H np len d left : Nat) : Nat → Nat
  | 0 => 0
  | dd + 1 => bInQ T W H len d left dd (bOutQ T W H np len d left dd) np
theorem hst_char {but k : Nat} (hk : but.testBit k = false) : ∀ m, (∀ p, p < m → but.testBit p = false → cN (T 1080 k) < cN (T 1080 p) ∨ (cN (T 1080 k) = cN (T 1080 p) ∧ k ≤ p)) → (m ≤ k → hst T but m = none ∨ ∃ b, hst T but m = some b ∧ cN (T 1080 k) < cN (T 1080 b)) ∧ (k < m → hst T but m = some k)
  | 0, _ => ⟨fun _ => Or.inl rfl, fun h => absurd h (by omega)⟩
  | m + 1, h => by
    obtain ⟨ih1, ih2⟩ := hst_char hk m (fun p hp => h p (by omega))
    have ev : hst T but (m + 1) = if but.testBit m = true then hst T but m else match hst T but m with
      | none => some m
      | some b => if cN (T 1080 m) < cN (T 1080 b) then some m else some b := rfl
    by_cases hl : but.testBit m = true
    · rw [ev, if_pos hl]
      refine ⟨fun q => ih1 (by omega), fun q => ?_⟩
      have : k ≠ m := fun e => by rw [e, hl] at hk; cases hk
      exact ih2 (by omega)
    · rw [ev, if_neg hl]
      have hm := h m (by omega) (Bool.eq_false_iff.mpr hl)
      refine ⟨fun q => ?_, fun q => ?_⟩
      · have hlt : cN (T 1080 k) < cN (T 1080 m) := by omega
        rcases ih1 (by omega) with e | ⟨b, e, e2⟩
        · rw [e]; exact Or.inr ⟨m, rfl, hlt⟩
        · rw [e]
          show (if _ then _ else _) = none ∨ _
          by_cases z : cN (T 1080 m) < cN (T 1080 b)
          · exact Or.inr ⟨m, by show (if _ then _ else _) = _; rw [if_pos z], hlt⟩
          · exact Or.inr ⟨b, by show (if _ then _ else _) = _; rw [if_neg z], e2⟩
      · by_cases z : k = m
        · subst z
          rcases ih1 (Nat.le_refl _) with e | ⟨b, e, e2⟩
          · rw [e]
          · rw [e]
            show (if _ then _ else _) = _
            rw [if_pos e2]
        · rw [ih2 (by omega)]
          show (if _ then _ else _) = _
          rw [if_neg (by omega)]
theorem qIn_keep {bu : Nat} : ∀ r looked, (∀ p, p < np → looked.testBit p = false → qOk T W H len d p bu = false) → qIn T W H np len d r looked bu = bu
  | 0, _, _ => rfl
  | r + 1, looked, h => by
    have ev : qIn T W H np len d (r + 1) looked bu = match hst T looked np with
      | none => bu
      | some p => qIn T W H np len d r (looked ||| (1 <<< p)) (if qOk T W H len d p bu = true then bu ||| (1 <<< p) else bu) := rfl
    rw [ev]
    cases e : hst T looked np with
    | none => rfl
    | some p =>
      obtain ⟨h1, h2⟩ := hst_lt e
      show qIn T W H np len d r (looked ||| (1 <<< p)) (if qOk T W H len d p bu = true then bu ||| (1 <<< p) else bu) = bu
      rw [if_neg (by rw [h p h1 h2]; decide)]
      exact qIn_keep r _ (fun q hq hl => h q hq (by
        rw [Nat.testBit_or] at hl
        simp only [Bool.or_eq_false_iff] at hl
        exact hl.1))
def SLk (T : Nat → Nat → Int32) (np done dd k L : Nat) : Prop := L < 64 ∧ ∀ p, p < np → L.testBit p = (done.testBit p || decide (cN (T 1080 p) < dd) || decide (cN (T 1080 p) = dd ∧ p < k))
theorem q_step (hn : np ≤ 6) {done left dd k L r bu : Nat} (hl : ∀ p, p < np → left.testBit p = !(done.testBit p)) (hk : k < np) (hS : SLk T np done dd k L) (hr : unl L np ≤ r) : ∃ L' r', SLk T np done dd (k + 1) L' ∧ unl L' np ≤ r' ∧ qIn T W H np len d r L bu = qIn T W H np len d r' L' (bstQ T W H len d left dd k bu) := by
  obtain ⟨hL, hS⟩ := hS
  by_cases z : cN (T 1080 k) = dd ∧ done.testBit k = false
  · have hLk : L.testBit k = false := by rw [hS k hk, z.2, decide_eq_false (by omega), decide_eq_false (by omega)]; rfl
    have hh : hst T L np = some k := (hst_char hLk np (fun p hp hlp => by
      rw [hS p hp] at hlp
      simp only [Bool.or_eq_false_iff, decide_eq_false_iff_not] at hlp
      omega)).2 hk
    have hlt : unl (L ||| (1 <<< k)) np < unl L np := by
      refine cntN_lt (p := k) (fun i hi hg => ?_) hk (by show (!L.testBit k) = true; rw [hLk]; rfl) ?_
      · have hg : (!(L ||| (1 <<< k)).testBit i) = true := hg
        rw [Nat.testBit_or] at hg
        show (!L.testBit i) = true
        cases e : L.testBit i
        · rfl
        · rw [e] at hg; cases hg
      · show (!(L ||| (1 <<< k)).testBit k) = false
        rw [tb_or L hL k (by omega) k (by omega), decide_eq_true rfl, Bool.or_true]; rfl
    obtain ⟨r', rfl⟩ : ∃ r', r = r' + 1 := ⟨r - 1, by omega⟩
    refine ⟨L ||| (1 <<< k), r', ⟨(or6n L hL k (by omega)).2, fun p hp => ?_⟩, by omega, ?_⟩
    · rw [tb_or L hL k (by omega) p (by omega), hS p hp]
      by_cases e : p = k
      · subst e
        rw [decide_eq_true rfl, Bool.or_true, decide_eq_true (p := cN (T 1080 p) = dd ∧ p < p + 1) ⟨z.1, by omega⟩, Bool.or_true]
      · rw [decide_eq_false (fun q : k = p => e q.symm), Bool.or_false]
        congr 1
        exact decide_eq_decide.mpr ⟨fun q => ⟨q.1, by omega⟩, fun q => ⟨q.1, by omega⟩⟩
    · have ev : qIn T W H np len d (r' + 1) L bu = match hst T L np with
        | none => bu
        | some p => qIn T W H np len d r' (L ||| (1 <<< p)) (if qOk T W H len d p bu = true then bu ||| (1 <<< p) else bu) := rfl
      rw [ev, hh]
      show qIn T W H np len d r' (L ||| (1 <<< k)) (if qOk T W H len d k bu = true then bu ||| (1 <<< k) else bu) = _
      unfold bstQ
      have hlk : left.testBit k = true := by rw [hl k hk, z.2]; rfl
      by_cases q : qOk T W H len d k bu = true
      · rw [if_pos q, if_pos ⟨⟨z.1, hlk⟩, q⟩]
      · rw [if_neg q, if_neg (fun y => q y.2)]
  · refine ⟨L, r, ⟨hL, fun p hp => ?_⟩, hr, ?_⟩
    · rw [hS p hp]
      by_cases e : p = k
      · subst e
        by_cases y : done.testBit p = true
        · rw [y]; simp
        · have y2 : ¬ cN (T 1080 p) = dd := fun q => z ⟨q, Bool.eq_false_iff.mpr y⟩
          rw [decide_eq_false (fun q : cN (T 1080 p) = dd ∧ p < p => y2 q.1), decide_eq_false (fun q : cN (T 1080 p) = dd ∧ p < p + 1 => y2 q.1)]
      · congr 1
        exact decide_eq_decide.mpr ⟨fun q => ⟨q.1, by omega⟩, fun q => ⟨q.1, by omega⟩⟩
    · unfold bstQ
      rw [if_neg (fun y => z ⟨y.1.1, by
        have := y.1.2
        rw [hl k hk] at this
        cases e : done.testBit k
        · rfl
        · rw [e] at this; cases this⟩)]
theorem q_row (hn : np ≤ 6) {done left dd bu : Nat} (hl : ∀ p, p < np → left.testBit p = !(done.testBit p)) {L r : Nat} (hS : SLk T np done dd 0 L) (hr : unl L np ≤ r) : ∀ k, k ≤ np → ∃ L' r', SLk T np done dd k L' ∧ unl L' np ≤ r' ∧ qIn T W H np len d r L bu = qIn T W H np len d r' L' (bInQ T W H len d left dd bu k)
  | 0, _ => ⟨L, r, hS, hr, rfl⟩
  | k + 1, hk => by
    obtain ⟨L1, r1, h1, h2, h3⟩ := q_row hn hl hS hr k (by omega)
    obtain ⟨L2, r2, g1, g2, g3⟩ := q_step (T := T) (W := W) (H := H) (len := len) (d := d) (bu := bInQ T W H len d left dd bu k) hn hl (by omega) h1 h2
    exact ⟨L2, r2, g1, g2, h3.trans g3⟩
theorem q_all (hn : np ≤ 6) {done left : Nat} (hdn : done < 64) (hl : ∀ p, p < np → left.testBit p = !(done.testBit p)) : ∀ dd, ∃ L r, SLk T np done dd 0 L ∧ unl L np ≤ r ∧ qIn T W H np len d 6 done 0 = qIn T W H np len d r L (bOutQ T W H np len d left dd)
  | 0 => ⟨done, 6, ⟨hdn, fun p hp => by rw [decide_eq_false (by omega), decide_eq_false (by omega), Bool.or_false, Bool.or_false]⟩, Nat.le_trans (cntN_le _ np) hn, rfl⟩
  | dd + 1 => by
    obtain ⟨L1, r1, h1, h2, h3⟩ := q_all hn hdn hl dd
    obtain ⟨L2, r2, g1, g2, g3⟩ := q_row (T := T) (W := W) (H := H) (len := len) (d := d) (bu := bOutQ T W H np len d left dd) hn hl h1 h2 np (Nat.le_refl _)
    refine ⟨L2, r2, ⟨g1.1, fun p hp => ?_⟩, g2, h3.trans g3⟩
    rw [g1.2 p hp]
    by_cases e : cN (T 1080 p) = dd
    · rw [decide_eq_true (p := cN (T 1080 p) = dd ∧ p < np) ⟨e, hp⟩, decide_eq_true (p := cN (T 1080 p) < dd + 1) (by omega), Bool.or_true, Bool.or_true, Bool.true_or]
    · rw [decide_eq_false (p := cN (T 1080 p) = dd ∧ p < np) (fun q => e q.1), decide_eq_false (p := cN (T 1080 p) = dd + 1 ∧ p < 0) (by omega), Bool.or_false, Bool.or_false]
      congr 1
      exact decide_eq_decide.mpr ⟨fun q => by omega, fun q => by omega⟩
theorem q_eq (hn : np ≤ 6) (hdl : ∀ p, p < np → cN (T 1080 p) ≤ 20) {done left : Nat} (hdn : done < 64) (hl : ∀ p, p < np → left.testBit p = !(done.testBit p)) {E : Nat} (hE : E = if d < 20 then d + 1 else 21) : qIn T W H np len d 6 done 0 = bOutQ T W H np len d left E := by
  obtain ⟨L, r, h1, h2, h3⟩ := q_all (T := T) (W := W) (H := H) (np := np) (len := len) (d := d) hn hdn hl E
  rw [h3]
  refine qIn_keep r L (fun p hp hlp => ?_)
  rw [h1.2 p hp] at hlp
  simp only [Bool.or_eq_false_iff, decide_eq_false_iff_not] at hlp
  have h20 := hdl p hp
  have : ¬ cN (T 1080 p) ≤ d := by
    rw [hE] at hlp
    split at hlp <;> omega
  unfold qOk cnD
  rw [decide_eq_false this]; rfl
end QU
