/-! burials: what the fewest days say of the reference's answer; quarrels are of two -/
section BU3
variable {T T' : Nat → Nat → Int32} {W H np len : Nat} {a res : Nat → Nat} {tp : Nat → Nat} {sz : Nat} {x : Nat × Nat × Nat}
def abT (op : Nat → Nat → Bool) (d : Nat) : Nat := sN (fun p => op p d) 6
theorem abT_o (op : Nat → Nat → Bool) : abO op (abT op) := fun d p hp => by unfold abT; rw [sN_bit, decide_eq_true hp, Bool.true_and]
theorem abT_lt {op : Nat → Nat → Bool} {d : Nat} : abT op d < 64 := sN_lt 6
theorem tog_0 : togT T np 0 = true := by
  unfold togT
  rw [cntN_cc (g := fun _ => false) 6 (fun p _ => Nat.zero_testBit p), cnt_f, decide_eq_true (Nat.zero_le _), Bool.true_and, Bool.not_eq_true']
  exact anyN_f.mpr (fun p _ => by rw [Nat.zero_testBit]; rfl)
/-- the fewest days -/
def fwE (T : Nat → Nat → Int32) (np : Nat) (op : Nat → Nat → Bool) : Nat := fw (togT T np) (abT op) 41 (2 ^ np - 1)
theorem E_lt (hn : np ≤ 6) : 2 ^ np - 1 < 64 := by
  have : 2 ^ np ≤ 2 ^ 6 := Nat.pow_le_pow_right (by decide) hn
  omega
theorem bry_0 {q : Nat} : (∀ r, bry T W H len np 0 q (fun _ => 0) (fun _ => 0) = some r → (∀ k, k < np → RV T W H len r k) ∧ dyN r np ≤ q) ∧ (∀ a, (∀ k, k < np → RV T W H len a k) → dyN a np ≤ q → ∃ r, bry T W H len np 0 q (fun _ => 0) (fun _ => 0) = some r ∧ ∀ k, k < np → (∀ j, j < k → a j = r j) → r k ≤ a k) := by
  obtain ⟨h1, h2⟩ := bry_ok (T := T) (W := W) (H := H) (len := len) (np := np) np 0 q (fun _ => 0) (fun _ => 0) (by omega) (fun _ => rfl) (fun _ => Nat.zero_le _)
  refine ⟨fun r hr => ?_, fun a ha hd => ?_⟩
  · obtain ⟨-, c2, c3⟩ := h1 r hr
    have c3 : dyN r np ≤ 0 + q := c3
    exact ⟨fun k hk => c2 k (Nat.zero_le _) hk, by omega⟩
  · obtain ⟨r, r1, r2⟩ := h2 a (fun k hk => absurd hk (Nat.not_lt_zero k)) (fun k _ hk => ha k hk) (by show dyN a np ≤ 0 + q; omega)
    exact ⟨r, r1, fun k hk => r2 k (Nat.zero_le _) hk⟩
theorem bur_n (hn : np ≤ 6) (hQ : QS T np) (h : ¬ fwE T np (opT T W H np len) < 99) : burR T W H np len = none := by
  have : fnd (burG T W H np len) (np + 1) = none := fnd_none.mpr (fun q hq => by
    unfold burG
    cases hb : bry T W H len np 0 q (fun _ => 0) (fun _ => 0) with
    | none => rfl
    | some r =>
      exfalso
      obtain ⟨c1, c2⟩ := bry_0.1 r hb
      have := fw_B (abT_o _) 41 _ r _ (E_lt hn) (val_A hn hQ c1)
      have h' : fwE T np (opT T W H np len) ≤ dyN r np := this
      omega)
  unfold burR
  rw [this]
theorem bur_s (hn : np ≤ 6) (hQ : QS T np) (h : fwE T np (opT T W H np len) < 99) : ∃ r, burR T W H np len = some (fwE T np (opT T W H np len), r) ∧ (∀ k, k < np → RV T W H len r k) ∧ dyN r np = fwE T np (opT T W H np len) ∧ ∀ a, (∀ k, k < np → RV T W H len a k) → dyN a np ≤ fwE T np (opT T W H np len) → ∀ k, k < np → (∀ j, j < k → a j = r j) → r k ≤ a k := by
  obtain ⟨a0, ha0⟩ := fw_A (tog_0 (T := T) (np := np)) (abT_o (opT T W H np len)) 41 _ (E_lt hn) h
  obtain ⟨b1, b2⟩ := val_B hn ha0
  have hlow : ∀ r, (∀ k, k < np → RV T W H len r k) → fwE T np (opT T W H np len) ≤ dyN r np := fun r hr => fw_B (abT_o _) 41 _ r _ (E_lt hn) (val_A hn hQ hr)
  have b2 : fwE T np (opT T W H np len) = dyN a0 np := b2
  generalize fwE T np (opT T W H np len) = k0 at h b2 hlow
  obtain ⟨r, r1, r2⟩ := (bry_0 (q := k0)).2 a0 b1 (by omega)
  obtain ⟨c1, c2⟩ := bry_0.1 r r1
  have hk : k0 ≤ np := by rw [b2]; exact dyN_le np
  have hf : fnd (burG T W H np len) (np + 1) = some k0 := fnd_some.mpr ⟨by omega, by unfold burG; rw [r1]; rfl, fun j hj => by
    unfold burG
    cases hb : bry T W H len np 0 j (fun _ => 0) (fun _ => 0) with
    | none => rfl
    | some r' =>
      exfalso
      obtain ⟨d1, d2⟩ := bry_0.1 r' hb
      have := hlow r' d1
      omega⟩
  refine ⟨r, ?_, c1, Nat.le_antisymm c2 (hlow r c1), fun a ha hd => ?_⟩
  · unfold burR
    rw [hf]
    dsimp only
    rw [r1]
  · obtain ⟨r', e1, e2⟩ := (bry_0 (q := k0)).2 a ha hd
    rw [r1] at e1
    cases e1
    exact e2
/-- open days, those before p being bound, p being bound to day -/
def opF (T : Nat → Nat → Int32) (W H np len : Nat) (res : Nat → Nat) (p day q e : Nat) : Bool := if q < p then decide (e = res q) else if q = p then decide (e = day) else opT T W H np len q e
theorem opT_r (hr : ∀ k, k < np → RV T W H len res k) {q : Nat} (hq : q < np) : opT T W H np len q (res q) = true := by
  unfold opT
  rw [decide_eq_true hq, (hr q hq).2.1, decide_eq_true (hr q hq).1.2]; rfl
theorem opF_1 {p day k : Nat} (hn : np ≤ 6) (hp : p < np) (hr : ∀ k, k < np → RV T W H len res k) (hd : opT T W H np len p day = true) (h : Plan (opF T W H np len res p day) (togT T np) 41 (2 ^ np - 1) a k) : Plan (opT T W H np len) (togT T np) 41 (2 ^ np - 1) a k ∧ (∀ q, q < p → a q = res q) ∧ a p = day := by
  obtain ⟨p1, p2, p3⟩ := h
  have hb : ∀ q, q < np → a q < 41 ∧ opF T W H np len res p day q (a q) = true := fun q hq => p1 q (by omega) (by rw [Nat.testBit_two_pow_sub_one]; exact decide_eq_true hq)
  have e1 : ∀ q, q < p → a q = res q := fun q hq => by
    have := (hb q (by omega)).2
    unfold opF at this
    rw [if_pos hq] at this
    exact of_decide_eq_true this
  have e2 : a p = day := by
    have := (hb p hp).2
    unfold opF at this
    rw [if_neg (Nat.lt_irrefl p), if_pos rfl] at this
    exact of_decide_eq_true this
  refine ⟨⟨fun q hq hbq => ?_, p2, p3⟩, e1, e2⟩
  rw [Nat.testBit_two_pow_sub_one] at hbq
  have hqn := of_decide_eq_true hbq
  refine ⟨(hb q hqn).1, ?_⟩
  by_cases z : q < p
  · rw [e1 q z]; exact opT_r hr hqn
  · by_cases y : q = p
    · rw [y, e2]; exact hd
    · have := (hb q hqn).2
      unfold opF at this
      rw [if_neg z, if_neg y] at this
      exact this
theorem bur_2 {p day : Nat} (hn : np ≤ 6) (hp : p < np) (hr : ∀ k, k < np → RV T W H len res k) (h99 : fwE T np (opT T W H np len) < 99) (hmin : ∀ a, (∀ k, k < np → RV T W H len a k) → dyN a np ≤ fwE T np (opT T W H np len) → ∀ k, k < np → (∀ j, j < k → a j = res j) → res k ≤ a k) (hd : opT T W H np len p day = true) (hlt : day < res p) : fwE T np (opF T W H np len res p day) ≠ fwE T np (opT T W H np len) := fun he => by
  obtain ⟨a, ha⟩ := fw_A (tog_0 (T := T) (np := np)) (abT_o (opF T W H np len res p day)) 41 _ (E_lt hn) (by show fwE T np (opF T W H np len res p day) < 99; omega)
  obtain ⟨c1, c2, c3⟩ := opF_1 hn hp hr hd ha
  obtain ⟨v1, v2⟩ := val_B hn c1
  have v2 : fwE T np (opF T W H np len res p day) = dyN a np := v2
  have := hmin a v1 (by omega) p hp c2
  omega
theorem bur_3 {p : Nat} (hn : np ≤ 6) (hQ : QS T np) (hp : p < np) (hr : ∀ k, k < np → RV T W H len res k) (hk : dyN res np = fwE T np (opT T W H np len)) : fwE T np (opF T W H np len res p (res p)) = fwE T np (opT T W H np len) := by
  have h1 : fwE T np (opF T W H np len res p (res p)) ≤ dyN res np := by
    obtain ⟨p1, p2, p3⟩ := val_A hn hQ hr
    refine fw_B (abT_o _) 41 _ res _ (E_lt hn) ⟨fun q hq hb => ⟨(p1 q hq hb).1, ?_⟩, p2, p3⟩
    unfold opF
    by_cases z : q < p
    · rw [if_pos z]; exact decide_eq_true rfl
    · by_cases y : q = p
      · rw [if_neg z, if_pos y, y]; exact decide_eq_true rfl
      · rw [if_neg z, if_neg y]; exact (p1 q hq hb).2
  by_cases z : fwE T np (opF T W H np len res p (res p)) < 99
  · obtain ⟨a, ha⟩ := fw_A (tog_0 (T := T) (np := np)) (abT_o (opF T W H np len res p (res p))) 41 _ (E_lt hn) z
    obtain ⟨c1, -, -⟩ := opF_1 hn hp hr (opT_r hr hp) ha
    have : fwE T np (opT T W H np len) ≤ fwE T np (opF T W H np len res p (res p)) := fw_B (abT_o _) 41 _ a _ (E_lt hn) c1
    omega
  · have : fwE T np (opT T W H np len) ≤ 99 := fw_99 41 _
    omega
theorem QS_c (hQ : QS T np) (h : ∀ p, T' 1081 p = T 1081 p) (h10 : T' 1072 10 = T 1072 10) (hn : cN (T 1072 10) = np) : QS T' (cN (T' 1072 10)) := by
  rw [h10, hn]
  intro p hp q hq
  rw [h p] at hq
  rw [h q]; exact hQ p hp q hq
theorem orb_bit {m b q : Nat} (hm : m < 64) (hb : b < 6) : (cN (nI m ||| (1 <<< (nI b &&& 31)))).testBit q = (m.testBit q || decide (b = q)) := by
  obtain ⟨e1, e2⟩ := or6n m hm b hb
  rw [e1, cN_nI (by omega), Nat.testBit_or, Nat.one_shiftLeft, Nat.testBit_two_pow]
theorem QS_q {u v : Nat} (hB : BT T W H np len) (hQ : QS T np) (hu : u < np) (hv : v < np) (hne : u ≠ v) : QS (qrH T u v) np := by
  have hP := hB.1.2.2.2.2.2.1
  have hn6 := hB.1.2.2.2.2.1.2
  have g1 : ∀ p, p < np → T 1081 p = nI (cN (T 1081 p)) ∧ cN (T 1081 p) < 64 := fun p hp => (hP p hp).2.2.2.2.2
  have gu : ∀ q, (cN (qrH T u v 1081 u)).testBit q = ((cN (T 1081 u)).testBit q || decide (v = q)) := fun q => by
    unfold qrH
    rw [upI_nea (by decide), upI_j hne, upI_s, (g1 u hu).1, orb_bit (g1 u hu).2 (by omega), cN_nI (by have := (g1 u hu).2; omega)]
  have gv : ∀ q, (cN (qrH T u v 1081 v)).testBit q = ((cN (T 1081 v)).testBit q || decide (u = q)) := fun q => by
    unfold qrH
    rw [upI_nea (by decide), upI_s, upI_j (Ne.symm hne), (g1 v hv).1, orb_bit (g1 v hv).2 (by omega), cN_nI (by have := (g1 v hv).2; omega)]
  have go : ∀ p, p ≠ u → p ≠ v → qrH T u v 1081 p = T 1081 p := fun p h1 h2 => by
    unfold qrH
    rw [upI_nea (by decide), upI_j h2, upI_j h1]
  have gm : ∀ p q, (cN (T 1081 p)).testBit q = true → (cN (qrH T u v 1081 p)).testBit q = true := fun p q h => by
    by_cases z : p = u
    · rw [z] at h ⊢; rw [gu, h]; rfl
    · by_cases y : p = v
      · rw [y] at h ⊢; rw [gv, h]; rfl
      · rw [go p z y]; exact h
  intro p hp q hq
  have old : (cN (T 1081 p)).testBit q = true → q < np ∧ q ≠ p ∧ (cN (qrH T u v 1081 q)).testBit p = true := fun h => by
    obtain ⟨s1, s2, s3⟩ := hQ p hp q h
    exact ⟨s1, s2, gm q p s3⟩
  by_cases z : p = u
  · subst z
    rw [gu] at hq
    rcases Bool.or_eq_true_iff.mp hq with h | h
    · exact old h
    · have h := of_decide_eq_true h
      subst h
      exact ⟨hv, Ne.symm hne, by rw [gv, decide_eq_true rfl, Bool.or_true]⟩
  · by_cases y : p = v
    · subst y
      rw [gv] at hq
      rcases Bool.or_eq_true_iff.mp hq with h | h
      · exact old h
      · have h := of_decide_eq_true h
        subst h
        exact ⟨hu, hne, by rw [gu, decide_eq_true rfl, Bool.or_true]⟩
    · rw [go p z y] at hq; exact old hq
theorem QS_body {seen : Nat} (hB : BT T W H np len) (hQ : QS T np) (hf : (liBody tp sz seen x T).1.2.1 = 0) (hx0 : x.2.1 = 0) : QS (liBody tp sz seen x T).2 (cN ((liBody tp sz seen x T).2 1072 10)) := by
  obtain ⟨-, -, -, -, -, en, hn6⟩ := BT_d hB
  unfold liBody at hf ⊢
  by_cases c : 0 < kLn tp sz x
  · rw [if_pos c] at hf ⊢
    by_cases c2 : seen &&& kLn tp sz x = 0
    · rw [if_pos c2]
      unfold liOne
      split
      · (try dsimp only)
        exact QS_c hQ (fun p => by rw [upI_nea (by decide), upI_nea (by decide)]) (by rw [upI_j (by decide), upI_j (by decide)]) en
      · split
        · (try dsimp only)
          exact QS_c hQ (fun p => upI_nea (by decide)) (upI_j (by decide)) en
        · split
          · (try dsimp only)
            exact QS_c hQ (fun p => upI_nea (by decide)) (upI_j (by decide)) en
          · split
            · (try dsimp only)
              exact QS_c hQ (fun p => upI_nea (by decide)) (upI_j (by decide)) en
            · split
              · obtain ⟨a1, a2⟩ := fgL_sm (tp := tp) (sz := sz) 4 0 (stX tp sz x) T (by omega)
                exact QS_c hQ (fun p => a1 _ _ (by decide)) (a2 10 (by omega)) en
              · (try dsimp only)
                exact QS_c hQ (fun p => by unfold rlT; rw [if_neg (by omega), if_neg (by omega)]) (by unfold rlT; rw [if_neg (by omega), if_neg (by omega)]) en
    · rw [if_neg c2]; rw [en]; exact hQ
  · rw [if_neg c] at hf ⊢
    unfold liOth at hf ⊢
    cases hv : fnd (fun k => isW tp sz x.1 x.2.1 (wKnd k)) 4 with
    | some k =>
      rw [hv] at hf
      dsimp only at hf ⊢
      unfold liPty at hf ⊢
      by_cases h6 : cN (T 1072 10) = 6
      · rw [if_pos h6]; rw [en]; exact hQ
      · rw [if_neg h6]
        dsimp only
        rw [upI_s, en, cN_nI (by omega)]
        intro p hp q hq
        have e1 : ∀ j, j ≠ np → (upI (upI (upI (upI (upI (upI (upI T 1076 np (nI k)) 1077 np (nI (vNu tp sz 1 4 (stX tp sz x)))) 1078 np (nI (vNu tp sz 0 9 (pNu tp sz 1 4 (stX tp sz x))))) 1079 np (nI (vNu tp sz 0 (cN (T 1072 1) - 1) (pNu tp sz 0 9 (pNu tp sz 1 4 (stX tp sz x)))))) 1080 np (nI (vNu tp sz 0 20 (pNu tp sz 0 (cN (T 1072 1) - 1) (pNu tp sz 0 9 (pNu tp sz 1 4 (stX tp sz x))))))) 1081 np 0) 1072 10 (nI (np + 1))) 1081 j = T 1081 j := fun j hj => by
          rw [upI_nea (by decide), upI_j hj, upI_nea (by decide), upI_nea (by decide), upI_nea (by decide), upI_nea (by decide), upI_nea (by decide)]
        have e2 : (upI (upI (upI (upI (upI (upI (upI T 1076 np (nI k)) 1077 np (nI (vNu tp sz 1 4 (stX tp sz x)))) 1078 np (nI (vNu tp sz 0 9 (pNu tp sz 1 4 (stX tp sz x))))) 1079 np (nI (vNu tp sz 0 (cN (T 1072 1) - 1) (pNu tp sz 0 9 (pNu tp sz 1 4 (stX tp sz x)))))) 1080 np (nI (vNu tp sz 0 20 (pNu tp sz 0 (cN (T 1072 1) - 1) (pNu tp sz 0 9 (pNu tp sz 1 4 (stX tp sz x))))))) 1081 np 0) 1072 10 (nI (np + 1))) 1081 np = 0 := by
          rw [upI_nea (by decide), upI_s]
        by_cases z : p = np
        · rw [z, e2, show cN (0 : Int32) = 0 from rfl, Nat.zero_testBit] at hq; cases hq
        · rw [e1 p z] at hq
          obtain ⟨s1, s2, s3⟩ := hQ p (by omega) q hq
          exact ⟨by omega, s2, by rw [e1 q (by omega)]; exact s3⟩
    | none =>
      rw [hv] at hf
      dsimp only at hf ⊢
      have hsame : QS T (cN (T 1072 10)) := by rw [en]; exact hQ
      have ht : ∀ k, k < 5 → QS (liThg tp sz k x T).2 (cN ((liThg tp sz k x T).2 1072 10)) := fun k hk => by
        unfold liThg
        split
        · exact hsame
        · split
          · exact hsame
          · split
            · exact hsame
            · dsimp only
              refine QS_c hQ (fun p => ?_) ?_ en
              · rw [upI_nea (show (1081 : Nat) ≠ 1072 by decide)]
                split <;> rw [upI_nea (by decide)]
              · rw [upI_j (by omega)]
                split <;> rw [upI_nea (by decide)]
      by_cases d1 : isX tp sz x wHei = true
      · rw [if_pos d1]
        unfold liHt
        split
        · exact hsame
        · split
          · exact hsame
          · dsimp only
            exact QS_c hQ (fun p => by rw [upI_nea (by decide), upI_nea (by decide)]) (by rw [upI_nea (by decide), upI_nea (by decide)]) en
      · rw [if_neg d1] at hf ⊢
        by_cases d2 : isX tp sz x wQua = true
        · rw [if_pos d2] at hf ⊢
          unfold liQrl at hf ⊢
          by_cases h6 : cN (T 1072 11) = 6
          · rw [if_pos h6]; exact hsame
          · rw [if_neg h6] at hf ⊢
            rw [en] at hf ⊢
            by_cases c1 : (pPt tp sz np (stG tp sz (pPt tp sz np (stX tp sz x)))).2.1 ≠ 0
            · rw [if_pos c1] at hf ⊢; exact hsame
            · rw [if_neg c1] at hf ⊢
              have c1 : (pPt tp sz np (stG tp sz (pPt tp sz np (stX tp sz x)))).2.1 = 0 := by omega
              have hb := vPt_lt c1
              have hx2 : (pPt tp sz np (stX tp sz x)).2.1 = 0 := by
                by_cases z : (pPt tp sz np (stX tp sz x)).2.1 = 0
                · exact z
                · have e1 : stG tp sz (pPt tp sz np (stX tp sz x)) = pPt tp sz np (stX tp sz x) := by unfold stG; rw [if_neg z]
                  rw [e1] at c1
                  unfold pPt at c1
                  rw [show pNw tp sz 0 9999 (if (pNw tp sz 0 9999 (stX tp sz x)).2.1 = 0 ∧ np ≤ vNu tp sz 0 9999 (stX tp sz x) then pWr 3 (pNw tp sz 0 9999 (stX tp sz x)) else pNw tp sz 0 9999 (stX tp sz x)) = pPt tp sz np (stX tp sz x) from pNw_b z] at c1
                  rw [if_neg (fun q => z q.1)] at c1
                  exact absurd c1 z
              have ha := vPt_lt hx2
              by_cases c3 : vPt tp sz np (stX tp sz x) = vPt tp sz np (stG tp sz (pPt tp sz np (stX tp sz x))) ∨ (T 1081 (vPt tp sz np (stX tp sz x)) >>> (nI (vPt tp sz np (stG tp sz (pPt tp sz np (stX tp sz x)))) &&& 31)) &&& 1 = 1
              · rw [if_pos c3]; exact hsame
              · rw [if_neg c3]
                dsimp only
                rw [show qrH T (vPt tp sz np (stX tp sz x)) (vPt tp sz np (stG tp sz (pPt tp sz np (stX tp sz x)))) 1072 10 = T 1072 10 from by unfold qrH; rw [upI_j (by decide), upI_nea (by decide), upI_nea (by decide)], en]
                exact QS_q hB hQ ha hb (fun q => c3 (Or.inl q))
        · rw [if_neg d2] at hf ⊢
          by_cases d3 : isX tp sz x wRoc = true
          · rw [if_pos d3]; exact ht 2 (by decide)
          · rw [if_neg d3]
            by_cases d4 : isX tp sz x wLad = true
            · rw [if_pos d4]; exact ht 3 (by decide)
            · rw [if_neg d4]
              by_cases d5 : isX tp sz x wQui = true
              · rw [if_pos d5]; exact ht 4 (by decide)
              · rw [if_neg d5]; exact hsame
theorem QS_ln (hsz : sz ≤ 700) : ∀ g (x : Nat × Nat × Nat) (T : Nat → Nat → Int32) (s : Nat), x.1 ≤ sz → x.2.1 = 0 → (∃ W H np len, BT T W H np len) → QS T (cN (T 1072 10)) → (lnL tp sz g x T s).1.2.1 = 0 → QS (lnL tp sz g x T s).2 (cN ((lnL tp sz g x T s).2 1072 10))
  | 0, _, _, _, _, _, _, hQ, _ => hQ
  | g + 1, x, T, s, hx, hx0, hB, hQ, hf => by
    rw [lnL] at hf ⊢
    by_cases c : x.2.1 ≠ 0 ∨ tKd tp sz x.1 = 0
    · rw [if_pos c]; exact hQ
    · rw [if_neg c] at hf ⊢
      have h1 : (pMk tp sz 59 (liBody tp sz s x T).1).2.1 = 0 := by
        by_cases z : (pMk tp sz 59 (liBody tp sz s x T).1).2.1 = 0
        · exact z
        · rw [lnL_b z] at hf; exact hf
      obtain ⟨W, H, np, len, hB⟩ := hB
      have h2 := pMk_0 h1
      have hl := li_le (tp := tp) (sz := sz) (T := T) (seen := s) hx
      obtain ⟨np', len', hB'⟩ := BT_body hB hx hx0 hsz h2
      have en := (BT_d hB).2.2.2.2.2.1
      rw [en] at hQ
      exact QS_ln hsz g _ _ _ (pMk_le hl.2).2 h1 ⟨W, H, np', len', hB'⟩ (QS_body hB hQ h2 hx0) hf
theorem QS_isl (hsz : sz ≤ 700) (hT : bgT T) (hf : (islE tp sz T).1.2.1 = 0) : QS (islE tp sz T).2 (cN ((islE tp sz T).2 1072 10)) := by
  have h10 : cN (T 1072 10) = 0 := by rw [hT.1 10 (by decide)]; rfl
  have hb := scn_le (p := fun k => blkQ (tp k)) (sz := sz) _ 0 rfl (Nat.zero_le _)
  unfold islE at hf ⊢
  by_cases c : isX tp sz (tBeg tp sz 0, 0, 0) wSan = true
  · rw [if_pos c] at hf ⊢
    have h1 : (pMk tp sz 59 (pNu tp sz 1 7 (pNu tp sz 3 9 (stX tp sz (tBeg tp sz 0, 0, 0))))).2.1 = 0 := by
      by_cases z : (pMk tp sz 59 (pNu tp sz 1 7 (pNu tp sz 3 9 (stX tp sz (tBeg tp sz 0, 0, 0))))).2.1 = 0
      · exact z
      · rw [lnL_b z] at hf; exact hf
    have h2 := pMk_0 h1
    have h3 : (pNu tp sz 3 9 (stX tp sz (tBeg tp sz 0, 0, 0))).2.1 = 0 := by
      by_cases z : (pNu tp sz 3 9 (stX tp sz (tBeg tp sz 0, 0, 0))).2.1 = 0
      · exact z
      · rw [pNu_b z] at h2; exact h2
    have l1 := stX_le (tp := tp) (sz := sz) (x := (tBeg tp sz 0, 0, 0)) hb.2
    have l2 := pNu_le (tp := tp) (lo := 3) (hi := 9) l1.2
    have l3 := pNu_le (tp := tp) (lo := 1) (hi := 7) l2.2
    refine QS_ln hsz 701 _ _ _ (pMk_le l3.2).2 h1 ⟨_, _, 0, 0, BT_sands hT ⟨vNu_lo h3, vNu_le, vNu_lo h2, vNu_le⟩⟩ ?_ hf
    rw [(bgT_sands hT _ _).2.2.1 10 (by decide), h10]
    exact fun p hp => absurd hp (Nat.not_lt_zero p)
  · rw [if_neg c] at hf ⊢
    refine QS_ln hsz 701 _ _ _ hb.2 rfl ⟨6, 4, 0, 0, BT_bg hT (hT.1 0 (by decide)) (hT.1 1 (by decide)) (by decide)⟩ ?_ hf
    rw [h10]
    exact fun p hp => absurd hp (Nat.not_lt_zero p)
end BU3
