/-! forwards and backwards: who is where when, and who comes over when -/
section FW
variable {W H pace : Nat} {m : Nat → Nat → Bool}
theorem nbr_sym (hW : 3 ≤ W) {c w q : Nat} (hc : c < W * H) (hw : w < 4) (h : nbr W H c w = some q) : ∃ v, v < 4 ∧ nbr W H q v = some c := by
  have hm := Nat.mod_lt c (show 0 < W by omega)
  have : w = 0 ∨ w = 1 ∨ w = 2 ∨ w = 3 := by omega
  rcases this with rfl | rfl | rfl | rfl
  · unfold nbr at h
    rw [if_pos rfl] at h
    by_cases e : W ≤ c
    · rw [if_pos e] at h; cases h
      refine ⟨2, by decide, ?_⟩
      unfold nbr
      rw [if_neg (by decide), if_neg (by decide), if_pos rfl, if_pos (by omega), Nat.sub_add_cancel e]
    · rw [if_neg e] at h; cases h
  · unfold nbr at h
    rw [if_neg (by decide), if_pos rfl] at h
    by_cases e : c % W + 1 < W
    · rw [if_pos e] at h; cases h
      refine ⟨3, by decide, ?_⟩
      have e2 : (c + 1) % W = c % W + 1 := by rw [Nat.add_mod, Nat.mod_eq_of_lt (show 1 < W by omega), Nat.mod_eq_of_lt e]
      unfold nbr
      rw [if_neg (by decide), if_neg (by decide), if_neg (by decide), if_neg (by omega), Nat.add_sub_cancel]
    · rw [if_neg e] at h; cases h
  · unfold nbr at h
    rw [if_neg (by decide), if_neg (by decide), if_pos rfl] at h
    by_cases e : c + W < W * H
    · rw [if_pos e] at h; cases h
      refine ⟨0, by decide, ?_⟩
      unfold nbr
      rw [if_pos rfl, if_pos (by omega), Nat.add_sub_cancel]
    · rw [if_neg e] at h; cases h
  · unfold nbr at h
    rw [if_neg (by decide), if_neg (by decide), if_neg (by decide)] at h
    by_cases e : c % W = 0
    · rw [if_pos e] at h; cases h
    · rw [if_neg e] at h; cases h
      refine ⟨1, by decide, ?_⟩
      have h1 : 1 ≤ c := by
        rcases Nat.eq_zero_or_pos c with z | z
        · rw [z, Nat.zero_mod] at e; exact absurd rfl e
        · exact z
      have e2 : (c - 1) % W + 1 < W := by
        have q1 : c = c - 1 + 1 := by omega
        have q2 := Nat.mod_lt (c - 1) (show 0 < W by omega)
        by_cases z : (c - 1) % W + 1 = W
        · exfalso
          apply e
          rw [q1, Nat.add_mod, Nat.mod_eq_of_lt (show 1 < W by omega), z, Nat.mod_self]
        · omega
      unfold nbr
      rw [if_neg (by decide), if_pos rfl, if_pos e2, Nat.sub_add_cancel h1]
theorem bes_iff {f : Nat → Bool} {c : Nat} : besF W H f c = true ↔ ∃ w q, w < 4 ∧ nbr W H c w = some q ∧ f q = true := by
  unfold besF
  rw [anyN_iff]
  constructor
  · rintro ⟨w, hw, h⟩
    cases e : nbr W H c w with
    | none => rw [e] at h; cases h
    | some q => rw [e] at h; exact ⟨w, q, hw, e, h⟩
  · rintro ⟨w, q, hw, e, h⟩
    exact ⟨w, hw, by rw [e]; exact h⟩
theorem bes_c {f g : Nat → Bool} (h : ∀ q, f q = g q) (c : Nat) : besF W H f c = besF W H g c := by rw [show f = g from funext h]
theorem sUp_le {s : Nat → Nat → Nat} {c t w : Nat} : ∀ k, w < k → sUp W H pace m s c t k ≤ sUp W H pace m s c t (w + 1)
  | 0, h => absurd h (by omega)
  | k + 1, h => by
    by_cases e : w = k
    · rw [e]; exact Nat.le_refl _
    · refine Nat.le_trans ?_ (sUp_le k (by omega))
      show sMin W H pace m s c t k (sUp W H pace m s c t k) ≤ _
      unfold sMin
      split
      · split
        · split
          · omega
          · exact Nat.le_refl _
        · exact Nat.le_refl _
      · exact Nat.le_refl _
theorem sUp_stp {s : Nat → Nat → Nat} {c t w q : Nat} (hw : w < 4) (hq : nbr W H c w = some q) (hs : stp pace m q t = true) : sUp W H pace m s c t 4 ≤ s q (t + pace) := by
  refine Nat.le_trans (sUp_le 4 hw) ?_
  show sMin W H pace m s c t w (sUp W H pace m s c t w) ≤ _
  unfold sMin
  rw [hq]
  show (if stp pace m q t = true then _ else _) ≤ _
  rw [if_pos hs]
  split
  · exact Nat.le_refl _
  · omega
theorem sUp_at {s : Nat → Nat → Nat} {c t : Nat} : ∀ k, k ≤ 4 → sUp W H pace m s c t k = 1000 ∨ (t + 1 < 96 ∧ m c (t + 1) = true ∧ sUp W H pace m s c t k = s c (t + 1)) ∨ ∃ w q, w < 4 ∧ nbr W H c w = some q ∧ stp pace m q t = true ∧ sUp W H pace m s c t k = s q (t + pace)
  | 0, _ => by
    show sStay m s c t = 1000 ∨ (_ ∧ _ ∧ sStay m s c t = _) ∨ ∃ w q, _ ∧ _ ∧ _ ∧ sStay m s c t = _
    unfold sStay
    by_cases e : t + 1 < 96 ∧ m c (t + 1) = true
    · rw [if_pos e]; exact Or.inr (Or.inl ⟨e.1, e.2, rfl⟩)
    · rw [if_neg e]; exact Or.inl rfl
  | k + 1, hk => by
    have ih := sUp_at (s := s) (c := c) (t := t) k (by omega)
    cases hq : nbr W H c k with
    | none =>
      have ev : sUp W H pace m s c t (k + 1) = sUp W H pace m s c t k := by
        show sMin W H pace m s c t k _ = _
        unfold sMin
        rw [hq]
      rw [ev]; exact ih
    | some q =>
      have ev : sUp W H pace m s c t (k + 1) = if stp pace m q t = true then (if s q (t + pace) < sUp W H pace m s c t k then s q (t + pace) else sUp W H pace m s c t k) else sUp W H pace m s c t k := by
        show sMin W H pace m s c t k _ = _
        unfold sMin
        rw [hq]
      rw [ev]
      by_cases h1 : stp pace m q t = true
      · rw [if_pos h1]
        by_cases h2 : s q (t + pace) < sUp W H pace m s c t k
        · rw [if_pos h2]
          exact Or.inr (Or.inr ⟨k, q, by omega, hq, h1, rfl⟩)
        · rw [if_neg h2]; exact ih
      · rw [if_neg h1]; exact ih
theorem sn_up (hp : 1 ≤ pace) {c t : Nat} (ht : t < 96) (hc : ¬ c % W = W - 1) : sn W H pace m c t = sUp W H pace m (sn W H pace m) c t 4 := by
  rw [sn_eq hp ht]
  unfold sOne
  rw [if_neg hc]
theorem sn_m1 (hp : 1 ≤ pace) {c t : Nat} (ht : t + 1 < 96) (hm : m c (t + 1) = true) : sn W H pace m c t ≤ sn W H pace m c (t + 1) := by
  by_cases hc : c % W = W - 1
  · rw [sn_isle hp (by omega) hc, sn_isle hp ht hc]; omega
  · rw [sn_up hp (by omega) hc]
    refine Nat.le_trans (sUp_stay 4) ?_
    unfold sStay
    rw [if_pos ⟨ht, hm⟩]
    exact Nat.le_refl _
theorem sn_m2 (hp : 1 ≤ pace) {c t w q : Nat} (hw : w < 4) (hq : nbr W H c w = some q) (hs : stp pace m q t = true) : sn W H pace m c t ≤ sn W H pace m q (t + pace) := by
  have ht : t + pace < 96 := by unfold stp at hs; simp only [Bool.and_eq_true, decide_eq_true_eq] at hs; exact hs.1
  by_cases hc : c % W = W - 1
  · rw [sn_isle hp (by omega) hc]
    have := sn_ge (W := W) (H := H) hp (m := m) _ q (t + pace) ht rfl
    omega
  · rw [sn_up hp (by omega) hc]
    exact sUp_stp hw hq hs
/-- where one can be in tick t', by moves begun in the first k ticks -/
def PLc (W H pace : Nat) (m : Nat → Nat → Bool) (home tick : Nat) : Nat → Nat → Nat → Bool
  | 0, t', c => decide (t' = tick) && decide (c = home)
  | k + 1, t', c => PLc W H pace m home tick k t' c || (decide (t' = tick + k + 1) && (PLc W H pace m home tick k (tick + k) c && m c (tick + k + 1))) || (decide (t' = tick + k + pace) && (decide (c < W * H) && besF W H (PLc W H pace m home tick k (tick + k)) c && allS m c (tick + k) pace))
def hit (W H pace : Nat) (m : Nat → Nat → Bool) (home tick k : Nat) : Bool := anyN (fun c => PLc W H pace m home tick k (tick + k) c && decide (c % W = W - 1)) (W * H)
def ffa (W H pace : Nat) (m : Nat → Nat → Bool) (home tick : Nat) : Option Nat := match fnd (hit W H pace m home tick) (96 - tick) with
  | some k => some (tick + k)
  | none => none
variable {home tick : Nat}
theorem PLc_lt (hh : home < W * H) : ∀ k {t' c : Nat}, PLc W H pace m home tick k t' c = true → c < W * H
  | 0, t', c, h => by
    rw [PLc] at h
    simp only [Bool.and_eq_true, decide_eq_true_eq] at h
    omega
  | k + 1, t', c, h => by
    rw [PLc] at h
    simp only [Bool.or_eq_true, Bool.and_eq_true, decide_eq_true_eq] at h
    rcases h with (h | h) | h
    · exact PLc_lt hh k h
    · exact PLc_lt hh k h.2.1
    · exact h.2.1.1
theorem PLc_mono {t' c : Nat} : ∀ {k j : Nat}, k ≤ j → PLc W H pace m home tick k t' c = true → PLc W H pace m home tick j t' c = true
  | k, 0, h, h2 => by have : k = 0 := by omega
                      subst this; exact h2
  | k, j + 1, h, h2 => by
    by_cases e : k = j + 1
    · subst e; exact h2
    · have := PLc_mono (k := k) (j := j) (by omega) h2
      rw [PLc, this]
      simp
theorem PL_1 (hW : 3 ≤ W) (hh : home < W * H) (hp : 1 ≤ pace) : ∀ k {t' c : Nat}, PLc W H pace m home tick k t' c = true → t' < 96 → sn W H pace m home tick ≤ sn W H pace m c t'
  | 0, t', c, h, _ => by
    rw [PLc] at h
    simp only [Bool.and_eq_true, decide_eq_true_eq] at h
    rw [h.1, h.2]; exact Nat.le_refl _
  | k + 1, t', c, h, ht => by
    rw [PLc] at h
    simp only [Bool.or_eq_true, Bool.and_eq_true, decide_eq_true_eq] at h
    rcases h with (h | h) | h
    · exact PL_1 hW hh hp k h ht
    · obtain ⟨rfl, h1, h2⟩ := h
      exact Nat.le_trans (PL_1 hW hh hp k h1 (by omega)) (sn_m1 hp ht h2)
    · obtain ⟨rfl, ⟨hc, h1⟩, h2⟩ := h
      obtain ⟨w, q, hw, hq, hf⟩ := bes_iff.mp h1
      obtain ⟨v, hv, hqc⟩ := nbr_sym hW hc hw hq
      refine Nat.le_trans (PL_1 hW hh hp k hf (by omega)) (sn_m2 hp hv hqc ?_)
      unfold stp
      rw [decide_eq_true ht, h2]; rfl
theorem PL_2 (hW : 3 ≤ W) (hH : 1 ≤ H) (hh : home < W * H) (hp : 1 ≤ pace) : ∀ r k c, 96 - (tick + k) = r → tick + k < 96 → PLc W H pace m home tick k (tick + k) c = true → sn W H pace m c (tick + k) ≠ 1000 → ∃ k' c', PLc W H pace m home tick k' (tick + k') c' = true ∧ c' % W = W - 1 ∧ tick + k' = sn W H pace m c (tick + k) := by
  intro r
  induction r using Nat.strongRecOn with
  | ind r ih =>
    intro k c hr ht hP hs
    by_cases hc : c % W = W - 1
    · exact ⟨k, c, hP, hc, (sn_isle hp ht hc).symm⟩
    · have hcl := PLc_lt hh k hP
      have e := sn_up (H := H) (m := m) hp ht hc
      rcases sUp_at (W := W) (H := H) (pace := pace) (m := m) (s := sn W H pace m) (c := c) (t := tick + k) 4 (by omega) with h | ⟨h1, h2, h3⟩ | ⟨w, q, hw, hq, h2, h3⟩
      · exact absurd (e.trans h) hs
      · rw [e, h3] at hs ⊢
        refine ih (96 - (tick + (k + 1))) (by omega) (k + 1) c rfl (by omega) ?_ hs
        rw [PLc, hP, show tick + (k + 1) = tick + k + 1 from rfl, h2]
        simp
      · have ht2 : tick + k + pace < 96 := by unfold stp at h2; simp only [Bool.and_eq_true, decide_eq_true_eq] at h2; exact h2.1
        have ha : allS m q (tick + k) pace = true := by unfold stp at h2; simp only [Bool.and_eq_true, decide_eq_true_eq] at h2; exact h2.2
        rw [e, h3] at hs ⊢
        rw [show tick + k + pace = tick + (k + pace) from Nat.add_assoc _ _ _] at hs ⊢
        refine ih (96 - (tick + (k + pace))) (by omega) (k + pace) q rfl (by omega) ?_ hs
        refine PLc_mono (k := k + 1) (by omega) ?_
        obtain ⟨v, hv, hqc⟩ := nbr_sym hW hcl hw hq
        have hb : besF W H (PLc W H pace m home tick k (tick + k)) q = true := bes_iff.mpr ⟨v, c, hv, hqc, hP⟩
        rw [PLc, hb, ha, decide_eq_true (nbr_lt hW hH hcl hq), show tick + (k + pace) = tick + k + pace from (Nat.add_assoc _ _ _).symm]
        simp
theorem hit_iff {k : Nat} (hh : home < W * H) : hit W H pace m home tick k = true ↔ ∃ c, PLc W H pace m home tick k (tick + k) c = true ∧ c % W = W - 1 := by
  unfold hit
  rw [anyN_iff]
  constructor
  · rintro ⟨c, -, h⟩
    simp only [Bool.and_eq_true, decide_eq_true_eq] at h
    exact ⟨c, h⟩
  · rintro ⟨c, h1, h2⟩
    exact ⟨c, PLc_lt hh k h1, by rw [h1, decide_eq_true h2]; rfl⟩
/-- the first arrival, forwards, is the one that is told backwards -/
theorem ffa_eq (hW : 3 ≤ W) (hH : 1 ≤ H) (hh : home < W * H) (hp : 1 ≤ pace) (ht : tick < 96) : oI (ffa W H pace m home tick) = aI (sn W H pace m home tick) := by
  have hP0 : PLc W H pace m home tick 0 (tick + 0) home = true := by rw [PLc]; simp
  unfold ffa
  cases e : fnd (hit W H pace m home tick) (96 - tick) with
  | none =>
    have hn := fnd_none.mp e
    have : sn W H pace m home tick = 1000 := by
      apply Classical.byContradiction
      intro q
      obtain ⟨k', c', h1, h2, h3⟩ := PL_2 hW hH hh hp _ 0 home rfl (by omega) hP0 q
      have hl := sn_last hp _ home tick ht rfl q
      have := hn k' (by rw [show tick + 0 = tick from rfl] at h3; omega)
      rw [(hit_iff hh).mpr ⟨c', h1, h2⟩] at this
      cases this
    rw [this]; rfl
  | some k =>
    obtain ⟨h1, h2, h3⟩ := fnd_some.mp e
    obtain ⟨c, hc1, hc2⟩ := (hit_iff hh).mp h2
    have a1 := PL_1 hW hh hp k hc1 (by omega)
    rw [sn_isle hp (by omega) hc2] at a1
    have q : sn W H pace m home tick ≠ 1000 := by omega
    obtain ⟨k', c', g1, g2, g3⟩ := PL_2 hW hH hh hp _ 0 home rfl (by omega) hP0 q
    have g3 : tick + k' = sn W H pace m home tick := g3
    have : k' = k := by
      by_cases z : k' < k
      · have := h3 k' z
        rw [(hit_iff hh).mpr ⟨c', g1, g2⟩] at this
        cases this
      · omega
    show nI (tick + k) = _
    rw [← g3, this]
    unfold aI
    rw [if_neg (by omega)]
end FW
