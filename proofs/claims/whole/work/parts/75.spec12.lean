/-! from where one comes over, and by which way -/
section BW
variable {W H pace : Nat} {m : Nat → Nat → Bool}
def cbF (W H pace : Nat) (m g : Nat → Nat → Bool) (t last c : Nat) : Bool := (decide (t + 1 ≤ last) && (g (t + 1) c && m c (t + 1))) || (decide (t + pace ≤ last) && (decide (c < W * H) && besF W H (fun q => g (t + pace) q && allS m q t pace) c))
theorem cb_iff {g : Nat → Nat → Bool} {t last c : Nat} : cbF W H pace m g t last c = true ↔ (t + 1 ≤ last ∧ g (t + 1) c = true ∧ m c (t + 1) = true) ∨ (t + pace ≤ last ∧ c < W * H ∧ ∃ w q, w < 4 ∧ nbr W H c w = some q ∧ g (t + pace) q = true ∧ allS m q t pace = true) := by
  unfold cbF
  simp only [Bool.or_eq_true, Bool.and_eq_true, decide_eq_true_eq, bes_iff]
theorem stp_of {q t : Nat} (h1 : t + pace < 96) (h2 : allS m q t pace = true) : stp pace m q t = true := by
  unfold stp
  rw [decide_eq_true h1, h2]; rfl
theorem stp_to {q t : Nat} (h : stp pace m q t = true) : t + pace < 96 ∧ allS m q t pace = true := by
  unfold stp at h
  simp only [Bool.and_eq_true, decide_eq_true_eq] at h
  exact h
/-- one can still come over -/
def canF (W H pace : Nat) (m : Nat → Nat → Bool) (t c : Nat) : Bool := decide (c < W * H) && decide (sn W H pace m c t ≠ 1000)
theorem can_eq (hW : 3 ≤ W) (hH : 1 ≤ H) (hp : 1 ≤ pace) {t c : Nat} (ht : t < 96) : (decide (c < W * H ∧ c % W = W - 1) || cbF W H pace m (canF W H pace m) t 95 c) = canF W H pace m t c := by
  rw [Bool.eq_iff_iff, Bool.or_eq_true, cb_iff]
  unfold canF
  simp only [Bool.and_eq_true, decide_eq_true_eq]
  have lt9 : ∀ q j, j < 96 → sn W H pace m q j ≠ 1000 → sn W H pace m q j < 96 := fun q j hj h => sn_last hp _ q j hj rfl h
  constructor
  · rintro (⟨h1, h2⟩ | ⟨h1, ⟨h2, h3⟩, h4⟩ | ⟨h1, hc, w, q, hw, hq, ⟨h2, h3⟩, h4⟩)
    · exact ⟨h1, by rw [sn_isle hp ht h2]; omega⟩
    · have a := sn_m1 (W := W) (H := H) hp (by omega) h4
      have b := lt9 c (t + 1) (by omega) h3
      exact ⟨h2, by omega⟩
    · have a := sn_m2 (W := W) (H := H) hp hw hq (stp_of (by omega) h4)
      have b := lt9 q (t + pace) (by omega) h3
      exact ⟨hc, by omega⟩
  · rintro ⟨hc, hs⟩
    by_cases hi : c % W = W - 1
    · exact Or.inl ⟨hc, hi⟩
    · right
      have e := sn_up (H := H) (m := m) hp ht hi
      rcases sUp_at (W := W) (H := H) (pace := pace) (m := m) (s := sn W H pace m) (c := c) (t := t) 4 (by omega) with h | ⟨h1, h2, h3⟩ | ⟨w, q, hw, hq, h2, h3⟩
      · exact absurd (e.trans h) hs
      · rw [e, h3] at hs
        exact Or.inl ⟨by omega, ⟨hc, hs⟩, h2⟩
      · rw [e, h3] at hs
        have h2 := stp_to h2
        exact Or.inr ⟨by omega, hc, w, q, hw, hq, ⟨nbr_lt hW hH hc hq, hs⟩, h2.2⟩
/-- one comes to the island in the very tick last -/
def QB (W H pace : Nat) (m : Nat → Nat → Bool) (last : Nat) : Nat → Nat → Nat → Bool
  | 0, _, c => decide (c < W * H ∧ c % W = W - 1)
  | k + 1, t, c => if t = last - (k + 1) then cbF W H pace m (QB W H pace m last k) t last c else QB W H pace m last k t c
theorem QB_ge {last : Nat} (c : Nat) : ∀ {k j t : Nat}, k ≤ j → j ≤ last → last - k ≤ t → QB W H pace m last j t c = QB W H pace m last k t c
  | k, 0, t, h, _, _ => by have : k = 0 := by omega
                           subst this; rfl
  | k, j + 1, t, h, h1, h2 => by
    by_cases e : k = j + 1
    · subst e; rfl
    · rw [QB, if_neg (by omega)]
      exact QB_ge c (by omega) (by omega) h2
theorem QB_lt {last : Nat} (hl : last < 96) (hm : ∀ c t, m c t = true → True) : ∀ k {t c : Nat}, QB W H pace m last k t c = true → c < W * H
  | 0, t, c, h => by
    rw [QB] at h
    exact (of_decide_eq_true h).1
  | k + 1, t, c, h => by
    rw [QB] at h
    split at h
    · rcases cb_iff.mp h with ⟨h1, h2, h3⟩ | ⟨h1, h2, -⟩
      · exact QB_lt hl hm k h2
      · exact h2
    · exact QB_lt hl hm k h
theorem QB_1 (hp : 1 ≤ pace) {last : Nat} (hl : last < 96) : ∀ k {t c : Nat}, k ≤ last → last - k ≤ t → t ≤ last → QB W H pace m last k t c = true → sn W H pace m c t ≤ last
  | 0, t, c, hk, h1, h2, h => by
    rw [QB] at h
    have := of_decide_eq_true h
    rw [sn_isle hp (by omega) this.2]; omega
  | k + 1, t, c, hk, h1, h2, h => by
    rw [QB] at h
    by_cases e : t = last - (k + 1)
    · rw [if_pos e] at h
      rcases cb_iff.mp h with ⟨a1, a2, a3⟩ | ⟨a1, -, w, q, hw, hq, a2, a3⟩
      · exact Nat.le_trans (sn_m1 hp (by omega) a3) (QB_1 hp hl k (by omega) (by omega) (by omega) a2)
      · exact Nat.le_trans (sn_m2 hp hw hq (stp_of (by omega) a3)) (QB_1 hp hl k (by omega) (by omega) (by omega) a2)
    · rw [if_neg e] at h
      exact QB_1 hp hl k (by omega) (by omega) h2 h
theorem QB_2 (hW : 3 ≤ W) (hH : 1 ≤ H) (hp : 1 ≤ pace) {last : Nat} (hl : last < 96) : ∀ k {t c : Nat}, k ≤ last → last - k ≤ t → t ≤ last → c < W * H → sn W H pace m c t = last → QB W H pace m last k t c = true
  | 0, t, c, hk, h1, h2, hc, h => by
    have e : t = last := by omega
    subst e
    rw [QB]
    refine decide_eq_true ⟨hc, ?_⟩
    apply Classical.byContradiction
    intro q
    have := sn_gt (W := W) (H := H) hp (m := m) hl q
    omega
  | k + 1, t, c, hk, h1, h2, hc, h => by
    rw [QB]
    by_cases e : t = last - (k + 1)
    · rw [if_pos e]
      have hi : ¬ c % W = W - 1 := fun q => by
        have := sn_isle (W := W) (H := H) hp (m := m) (c := c) (t := t) (by omega) q
        omega
      have e2 := sn_up (H := H) (m := m) hp (show t < 96 by omega) hi
      rw [h] at e2
      refine cb_iff.mpr ?_
      rcases sUp_at (W := W) (H := H) (pace := pace) (m := m) (s := sn W H pace m) (c := c) (t := t) 4 (by omega) with a | ⟨a1, a2, a3⟩ | ⟨w, q, hw, hq, a2, a3⟩
      · omega
      · have g := sn_ge (W := W) (H := H) hp (m := m) _ c (t + 1) a1 rfl
        exact Or.inl ⟨by omega, QB_2 hW hH hp hl k (by omega) (by omega) (by omega) hc (by omega), a2⟩
      · have a2 := stp_to a2
        have g := sn_ge (W := W) (H := H) hp (m := m) _ q (t + pace) a2.1 rfl
        exact Or.inr ⟨by omega, hc, w, q, hw, hq, QB_2 hW hH hp hl k (by omega) (by omega) (by omega) (nbr_lt hW hH hc hq) (by omega), a2.2⟩
    · rw [if_neg e]
      exact QB_2 hW hH hp hl k (by omega) (by omega) h2 hc h
/-- where one may go on to -/
def chF (W H pace : Nat) (m g : Nat → Nat → Bool) (c t last q : Nat) : Bool := (decide (t + 1 ≤ last) && (g (t + 1) q && m q (t + 1) && decide (q = c))) || (decide (t + pace ≤ last) && (g (t + pace) q && allS m q t pace && (decide (q < W * H) && besF W H (fun x => decide (x = c)) q)))
theorem nxU_min {s : Nat → Nat → Nat} {c t goal : Nat} : ∀ k, k ≤ 4 → (∀ q, ((q = c ∧ t + 1 < 96 ∧ m c (t + 1) = true ∧ s c (t + 1) = goal) ∨ (∃ w, w < k ∧ nbr W H c w = some q ∧ stp pace m q t = true ∧ s q (t + pace) = goal)) → ∃ x, nxU W H pace m s c t goal k = some x ∧ x ≤ q)
  | 0, _, q, h => by
    rcases h with ⟨rfl, h1, h2, h3⟩ | ⟨w, hw, -⟩
    · exact ⟨q, by show nx0 m s q t goal = _; unfold nx0; rw [if_pos ⟨h1, h2, h3⟩], Nat.le_refl _⟩
    · omega
  | k + 1, hk, q, h => by
    have ev : nxU W H pace m s c t goal (k + 1) = nxS W H pace m s c t goal k (nxU W H pace m s c t goal k) := rfl
    rw [ev]
    have step : ∀ b : Option Nat, (∀ x, b = some x → ∃ y, nxS W H pace m s c t goal k b = some y ∧ y ≤ x) := by
      intro b x hb
      unfold nxS
      cases hn : nbr W H c k with
      | none => exact ⟨x, hb, Nat.le_refl _⟩
      | some z =>
        by_cases g : stp pace m z t = true ∧ s z (t + pace) = goal ∧ oltB z b = true
        · refine ⟨z, by show (if _ then _ else _) = _; rw [if_pos g], ?_⟩
          have g3 := g.2.2
          rw [hb] at g3
          have := of_decide_eq_true (show decide (z < x) = true from g3)
          omega
        · exact ⟨x, by show (if _ then _ else _) = _; rw [if_neg g]; exact hb, Nat.le_refl _⟩
    by_cases hz : (q = c ∧ t + 1 < 96 ∧ m c (t + 1) = true ∧ s c (t + 1) = goal) ∨ (∃ w, w < k ∧ nbr W H c w = some q ∧ stp pace m q t = true ∧ s q (t + pace) = goal)
    · obtain ⟨x, hx, hxq⟩ := nxU_min k (by omega) q hz
      obtain ⟨y, hy, hyx⟩ := step _ x hx
      exact ⟨y, hy, by omega⟩
    · rcases h with h | ⟨w, hw, h1, h2, h3⟩
      · exact absurd (Or.inl h) hz
      · have hwk : w = k := by
          apply Classical.byContradiction
          intro z
          exact hz (Or.inr ⟨w, by omega, h1, h2, h3⟩)
        subst hwk
        cases hb : nxU W H pace m s c t goal w with
        | none =>
          refine ⟨q, ?_, Nat.le_refl _⟩
          unfold nxS
          rw [h1]
          show (if _ then _ else _) = _
          rw [if_pos ⟨h2, h3, rfl⟩]
        | some x =>
          by_cases hxq : q < x
          · refine ⟨q, ?_, Nat.le_refl _⟩
            unfold nxS
            rw [h1]
            show (if _ then _ else _) = _
            rw [if_pos ⟨h2, h3, decide_eq_true hxq⟩]
          · obtain ⟨y, hy, hyx⟩ := step _ x rfl
            exact ⟨y, hy, by omega⟩
theorem nxU_cand (hW : 3 ≤ W) {s : Nat → Nat → Nat} {c t goal : Nat} : ∀ k, k ≤ 4 → ∀ x, nxU W H pace m s c t goal k = some x → (x = c ∧ t + 1 < 96 ∧ m c (t + 1) = true ∧ s c (t + 1) = goal) ∨ (∃ w, w < 4 ∧ nbr W H c w = some x ∧ stp pace m x t = true ∧ s x (t + pace) = goal)
  | 0, _, x, h => by
    have h : nx0 m s c t goal = some x := h
    unfold nx0 at h
    split at h
    · rename_i h1
      cases h
      exact Or.inl ⟨rfl, h1⟩
    · cases h
  | k + 1, hk, x, h => by
    have h : nxS W H pace m s c t goal k (nxU W H pace m s c t goal k) = some x := h
    unfold nxS at h
    cases hn : nbr W H c k with
    | none => rw [hn] at h; exact nxU_cand hW k (by omega) x h
    | some z =>
      rw [hn] at h
      have h : (if stp pace m z t = true ∧ s z (t + pace) = goal ∧ oltB z (nxU W H pace m s c t goal k) = true then some z else nxU W H pace m s c t goal k) = some x := h
      split at h
      · rename_i h1
        cases h
        exact Or.inr ⟨k, by omega, hn, h1.1, h1.2.1⟩
      · exact nxU_cand hW k (by omega) x h
/-- the least place that one may go on to is the reference's -/
theorem ch_eq (hW : 3 ≤ W) (hH : 1 ≤ H) (hwh : W * H ≤ 63) (hp : 1 ≤ pace) {last c t : Nat} (hl : last < 96) (hc : c < W * H) (ht : t < last) (hs : sn W H pace m c t = last) {g : Nat → Nat → Bool} (hg : ∀ t' q, t < t' → t' ≤ last → g t' q = QB W H pace m last (last - t) t' q) : ∃ x, nxU W H pace m (sn W H pace m) c t last 4 = some x ∧ fnd (chF W H pace m g c t last) 63 = some x := by
  have eqg : ∀ t' q, t < t' → t' ≤ last → sn W H pace m c t ≤ sn W H pace m q t' → q < W * H → (g t' q = true ↔ sn W H pace m q t' = last) := by
    intro t' q h1 h2 h3 h4
    rw [hg t' q h1 h2]
    constructor
    · intro z
      have := QB_1 hp hl (last - t) (by omega) (by omega) h2 z
      omega
    · intro z
      exact QB_2 hW hH hp hl (last - t) (by omega) (by omega) h2 h4 z
  have hch : ∀ q, q < W * H → (chF W H pace m g c t last q = true ↔ ((q = c ∧ t + 1 < 96 ∧ m c (t + 1) = true ∧ sn W H pace m c (t + 1) = last) ∨ (∃ w, w < 4 ∧ nbr W H c w = some q ∧ stp pace m q t = true ∧ sn W H pace m q (t + pace) = last))) := by
    intro q hq
    unfold chF
    simp only [Bool.or_eq_true, Bool.and_eq_true, decide_eq_true_eq, bes_iff]
    constructor
    · rintro (⟨h1, ⟨h2, h3⟩, h4⟩ | ⟨h1, ⟨h2, h3⟩, h4, w, x, hw, hx, h5⟩)
      · subst h4
        exact Or.inl ⟨rfl, by omega, h3, (eqg (t + 1) q (by omega) h1 (sn_m1 hp (by omega) h3) hq).mp h2⟩
      · subst h5
        obtain ⟨v, hv, hvx⟩ := nbr_sym hW hq hw hx
        have hst := stp_of (t := t) (by omega) h3
        exact Or.inr ⟨v, hv, hvx, hst, (eqg (t + pace) q (by omega) h1 (sn_m2 hp hv hvx hst) hq).mp h2⟩
    · rintro (⟨rfl, h1, h2, h3⟩ | ⟨w, hw, h1, h2, h3⟩)
      · have hge := sn_ge (W := W) (H := H) hp (m := m) _ q (t + 1) h1 rfl
        exact Or.inl ⟨by omega, ⟨(eqg (t + 1) q (by omega) (by omega) (sn_m1 hp h1 h2) hq).mpr h3, h2⟩, rfl⟩
      · have hst := stp_to h2
        have hge := sn_ge (W := W) (H := H) hp (m := m) _ q (t + pace) hst.1 rfl
        obtain ⟨v, hv, hvc⟩ := nbr_sym hW hc hw h1
        exact Or.inr ⟨by omega, ⟨(eqg (t + pace) q (by omega) (by omega) (sn_m2 hp hw h1 h2) hq).mpr h3, hst.2⟩, hq, v, c, hv, hvc, rfl⟩
  have hlt : ∀ q, chF W H pace m g c t last q = true → q < W * H := by
    intro q h
    unfold chF at h
    simp only [Bool.or_eq_true, Bool.and_eq_true, decide_eq_true_eq] at h
    rcases h with h | h
    · rw [h.2.2]; exact hc
    · exact h.2.2.1
  have hi : ¬ c % W = W - 1 := fun q => by
    have := sn_isle (W := W) (H := H) hp (m := m) (c := c) (t := t) (by omega) q
    omega
  have e2 := sn_up (H := H) (m := m) hp (show t < 96 by omega) hi
  rw [hs] at e2
  obtain ⟨x, hx⟩ : ∃ x, nxU W H pace m (sn W H pace m) c t last 4 = some x := by
    rcases sUp_at (W := W) (H := H) (pace := pace) (m := m) (s := sn W H pace m) (c := c) (t := t) 4 (by omega) with a | ⟨a1, a2, a3⟩ | ⟨w, q, hw, hq, a2, a3⟩
    · omega
    · obtain ⟨x, hx, -⟩ := nxU_min (W := W) (H := H) (pace := pace) (m := m) (s := sn W H pace m) (c := c) (t := t) (goal := last) 4 (by omega) c (Or.inl ⟨rfl, a1, a2, by omega⟩)
      exact ⟨x, hx⟩
    · obtain ⟨x, hx, -⟩ := nxU_min (W := W) (H := H) (pace := pace) (m := m) (s := sn W H pace m) (c := c) (t := t) (goal := last) 4 (by omega) q (Or.inr ⟨w, hw, hq, a2, by omega⟩)
      exact ⟨x, hx⟩
  have hcd := nxU_cand hW 4 (by omega) x hx
  have hxl : x < W * H := by
    rcases hcd with ⟨rfl, -⟩ | ⟨w, hw, h1, -⟩
    · exact hc
    · exact nbr_lt hW hH hc h1
  refine ⟨x, hx, fnd_some.mpr ⟨by omega, (hch x hxl).mpr hcd, fun j hj => ?_⟩⟩
  cases e : chF W H pace m g c t last j
  · rfl
  · obtain ⟨y, hy, hyj⟩ := nxU_min (W := W) (H := H) (pace := pace) (m := m) (s := sn W H pace m) (c := c) (t := t) (goal := last) 4 (by omega) j ((hch j (hlt j e)).mp e)
    rw [hx] at hy
    cases hy
    omega
end BW
