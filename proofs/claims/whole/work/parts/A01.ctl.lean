/-! THE CLASS: the island that is being told, at h, against the told island T of the reference -/
def gF (h b j : Nat) : Bool := decide ((b = 1004 ∧ (j = 3 ∨ j = 4)) ∨ (b = 1005 ∧ 2 ≤ j ∧ j ≤ 7) ∨ (h ≤ b ∧ b < h + 16))
def eqG (h : Nat) (I J : Nat → Nat → Int32) : Prop := ∀ b j : Nat, gF h b j = false → J b j = I b j
def eqGL (h : Nat) (L M : Nat → Nat → Int64) : Prop := ∀ b j : Nat, b ≠ h + 1 → b ≠ h + 4 → M b j = L b j
theorem eqG_r (h : Nat) (I : Nat → Nat → Int32) : eqG h I I := fun _ _ _ => rfl
theorem eqGL_r (h : Nat) (L : Nat → Nat → Int64) : eqGL h L L := fun _ _ _ _ => rfl
theorem eqG_t {h : Nat} {I J K : Nat → Nat → Int32} (h1 : eqG h I J) (h2 : eqG h J K) : eqG h I K := fun b j q => (h2 b j q).trans (h1 b j q)
theorem eqGL_t {h : Nat} {I J K : Nat → Nat → Int64} (h1 : eqGL h I J) (h2 : eqGL h J K) : eqGL h I K := fun b j q r => (h2 b j q r).trans (h1 b j q r)
theorem eqG_u {h : Nat} {I J : Nat → Nat → Int32} {a k : Nat} {v : Int32} (he : eqG h I J) (ha : gF h a k = true) : eqG h I (upI J a k v) := fun b j hb => by
  by_cases e : b = a ∧ j = k
  · rw [e.1, e.2, ha] at hb; cases hb
  · rw [upI_ne e]; exact he b j hb
theorem eqR_G {h : Nat} {I J : Nat → Nat → Int32} (he : eqR I J) : eqG h I J := fun b j hb => he b j (by
  have hb := of_decide_eq_false hb
  unfold tkR
  rw [Bool.or_eq_false_iff]
  exact ⟨decide_eq_false (fun q => hb (Or.inr (Or.inl q))), decide_eq_false (fun q => hb (Or.inl ⟨q.1, Or.inr q.2⟩))⟩)
theorem gF_h {h a k : Nat} (h1 : h ≤ a) (h2 : a < h + 16) : gF h a k = true := decide_eq_true (by omega)
/-- what is told so far -/
def CTl (I : Nat → Nat → Int32) (L : Nat → Nat → Int64) (h : Nat) (T : Nat → Nat → Int32) (W H : Nat) : Prop :=
  (I (h + 1) 0 = nI W ∧ I (h + 1) 1 = nI H) ∧ (∀ c, c < W * H → I (h + 2) c = T 1073 c) ∧
  L (h + 1) 3 = bs (fun c => decide (c < W * H ∧ T 1084 c ≠ 0)) ∧
  (L (h + 1) 4 = bs (fun c => decide (c < W * H ∧ T 1074 c = 1)) ∧ L (h + 1) 5 = bs (fun c => decide (c < W * H ∧ T 1074 c = 2))) ∧
  (I (h + 1) 7 = T 1072 4 ∧ (∀ k, k < cN (T 1072 4) → I (h + 3) k = T 1075 k) ∧ L (h + 1) 8 = bs (fun c => decide (c < W * H) && anyN (fun q => decide (T 1075 q = nI c)) (cN (T 1072 4)))) ∧
  (I (h + 1) 9 = T 1072 5 ∧ I (h + 1) 10 = T 1072 6) ∧
  (L (h + 1) 11 = bs (fun c => decide (c < W * H)) ∧ L (h + 1) 12 = bs (fun c => decide (c < W * H ∧ c % W = 0)) ∧ L (h + 1) 13 = bs (fun c => decide (c < W * H ∧ c % W = W - 1))) ∧
  (I (h + 5) 2 = T 1072 16 ∧ ∀ k, k < cN (T 1072 16) → I (h + 6) k = opc (T 1082 k)) ∧
  (I h 3 = T 1072 10 ∧ ∀ p k, p < cN (T 1072 10) → k < 6 → I (h + 10 + p) k = T (1076 + k) p) ∧
  (I h 4 = T 1072 11 ∧ I h 5 = T 1072 7 ∧ I h 6 = T 1072 8 ∧ I h 7 = T 1072 9) ∧ ∀ f, f < 4 → I (h + 9) f = T 1072 (12 + f)
theorem CTl.f {I J : Nat → Nat → Int32} {L M : Nat → Nat → Int64} {h : Nat} {T : Nat → Nat → Int32} {W H : Nat} (hC : CTl I L h T W H) (h1 : ∀ b j, h ≤ b → b < h + 16 → (∀ p, b = h + 10 + p → p < cN (T 1072 10)) → J b j = I b j) (h2 : ∀ j, M (h + 1) j = L (h + 1) j) (hn : cN (T 1072 10) ≤ 6) : CTl J M h T W H := by
  obtain ⟨a, b, c, d, e, g, k, r, p, s, q⟩ := hC
  refine ⟨⟨?_, ?_⟩, fun c' hc' => ?_, ?_, ⟨?_, ?_⟩, ⟨?_, fun k' hk' => ?_, ?_⟩, ⟨?_, ?_⟩, ⟨?_, ?_, ?_⟩, ⟨?_, fun k' hk' => ?_⟩, ⟨?_, fun p' k' hp' hk' => ?_⟩, ⟨?_, ?_, ?_, ?_⟩, fun f hf => ?_⟩
  · rw [h1 _ _ (by omega) (by omega) (by omega)]; exact a.1
  · rw [h1 _ _ (by omega) (by omega) (by omega)]; exact a.2
  · rw [h1 _ _ (by omega) (by omega) (by omega)]; exact b c' hc'
  · rw [h2]; exact c
  · rw [h2]; exact d.1
  · rw [h2]; exact d.2
  · rw [h1 _ _ (by omega) (by omega) (by omega)]; exact e.1
  · rw [h1 _ _ (by omega) (by omega) (by omega)]; exact e.2.1 k' hk'
  · rw [h2]; exact e.2.2
  · rw [h1 _ _ (by omega) (by omega) (by omega)]; exact g.1
  · rw [h1 _ _ (by omega) (by omega) (by omega)]; exact g.2
  · rw [h2]; exact k.1
  · rw [h2]; exact k.2.1
  · rw [h2]; exact k.2.2
  · rw [h1 _ _ (by omega) (by omega) (by omega)]; exact r.1
  · rw [h1 _ _ (by omega) (by omega) (by omega)]; exact r.2 k' hk'
  · rw [h1 _ _ (by omega) (by omega) (by omega)]; exact p.1
  · rw [h1 _ _ (by omega) (by omega) (by omega)]; exact p.2 p' k' hp' hk'
  · rw [h1 _ _ (by omega) (by omega) (by omega)]; exact s.1
  · rw [h1 _ _ (by omega) (by omega) (by omega)]; exact s.2.1
  · rw [h1 _ _ (by omega) (by omega) (by omega)]; exact s.2.2.1
  · rw [h1 _ _ (by omega) (by omega) (by omega)]; exact s.2.2.2
  · rw [h1 _ _ (by omega) (by omega) (by omega)]; exact q f hf
theorem CTl.r {I J : Nat → Nat → Int32} {L : Nat → Nat → Int64} {h : Nat} {T : Nat → Nat → Int32} {W H : Nat} (hC : CTl I L h T W H) (hh : h = 1008 ∨ h = 1024) (he : eqR I J) (hn : cN (T 1072 10) ≤ 6) : CTl J L h T W H := hC.f (fun b j h1 h2 _ => he b j (by
  unfold tkR
  rw [Bool.or_eq_false_iff]
  exact ⟨decide_eq_false (by omega), decide_eq_false (by omega)⟩)) (fun _ => rfl) hn
/-- what a reading of a line comes to -/
def LnQ (n : Nat) (R : Nat → Nat → Option Nat) (sz : Nat) (tp : Nat → Nat) (h W H : Nat) (I : Nat → Nat → Int32) (L : Nat → Nat → Int64) (f : (Nat × Nat × Nat) × (Nat → Nat → Int32)) (s : Nat) (r : Int32) (t : jHS) : Prop :=
  ∃ J M, t = (n, shE, J, M, R) ∧ eqG h I J ∧ eqGL h L M ∧ C3 J sz tp f.1 ∧ (f.1.2.1 = 0 → CTl J M h f.2 W H ∧ J 1004 3 = nI (1024 * s)) ∧ r = jb (decide (f.1.2.1 = 0))
/-- how the class stands before a line -/
def LnS (R : Nat → Nat → Option Nat) (sz : Nat) (tp : Nat → Nat) (h W H np len : Nat) (I : Nat → Nat → Int32) (L : Nat → Nat → Int64) (x : Nat × Nat × Nat) (T : Nat → Nat → Int32) (s : Nat) : Prop :=
  (h = 1008 ∨ h = 1024) ∧ R 1004 2 = some h ∧ C3 I sz tp x ∧ x.2.1 = 0 ∧ CTl I L h T W H ∧ I 1004 3 = nI (1024 * s) ∧ BT T W H np len
theorem upL_s {L : Nat → Nat → Int64} {a k : Nat} {v : Int64} : upL L a k v a k = v := upL_same L a k v
theorem bs_has {f : Nat → Bool} {c : Nat} (h : c < 64) : bt (bs f) c = f c := bt_bs h
theorem CTl_ht {I : Nat → Nat → Int32} {L : Nat → Nat → Int64} {h : Nat} {T : Nat → Nat → Int32} {W H c : Nat} {a : Int32} (hh : h = 1008 ∨ h = 1024) (hC : CTl I L h T W H) (hc : c < W * H) (hWH : W * H ≤ 63) : CTl (upI I (h + 2) c a) (upL L (h + 1) 3 (L (h + 1) 3 ||| (1 <<< ((nI c).toInt64 &&& 63)))) h (upI (upI T 1084 c 1) 1073 c a) W H := by
  obtain ⟨e1, e2, e3, e4, e5, e6, e7, e8, e9, e10, e11⟩ := hC
  have key : L (h + 1) 3 ||| (1 <<< ((nI c).toInt64 &&& 63)) = bs (fun c' => decide (c' < W * H ∧ upI (upI T 1084 c 1) 1073 c a 1084 c' ≠ 0)) := by
    rw [e3, bs_1 (by omega), bs_or]
    refine bs_c (fun c' _ => ?_)
    by_cases z : c' = c
    · subst z
      have : upI (upI T 1084 c' 1) 1073 c' a 1084 c' = 1 := by rw [upI_nea (by decide), upI_s]
      rw [this, decide_eq_true (show c' = c' from rfl), Bool.or_true, decide_eq_true ⟨hc, by decide⟩]
    · have : upI (upI T 1084 c 1) 1073 c a 1084 c' = T 1084 c' := by rw [upI_nea (by decide), upI_j z]
      rw [this, decide_eq_false z, Bool.or_false]
  rcases hh with rfl | rfl
  all_goals
    refine ⟨e1, fun c' hc' => ?_, upL_s.trans key, e4, e5, e6, e7, e8, ⟨e9.1, fun p k hp hk => ?_⟩, e10, e11⟩
    · by_cases z : c' = c
      · rw [z, upI_s, upI_s]
      · rw [upI_j z, upI_j z, upI_nea (by decide)]; exact e2 c' hc'
    · have hk2 : 1076 + k ≠ 1073 ∧ 1076 + k ≠ 1084 := by omega
      rw [upI_nea (by omega), upI_nea hk2.1, upI_nea hk2.2]; exact e9.2 p k hp hk
