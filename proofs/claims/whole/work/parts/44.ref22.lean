/-! THE REFERENCE: its tokens -/
def scan (p : Nat → Bool) (sz : Nat) : Nat → Nat → Nat
  | 0, a => a
  | f + 1, a => if a < sz ∧ p a = true then scan p sz f (a + 1) else a
/-- the first place from a on where p ends -/
def scn (p : Nat → Bool) (sz a : Nat) : Nat := scan p sz (sz - a) a
theorem scn_go {p : Nat → Bool} {sz a : Nat} (h1 : a < sz) (h2 : p a = true) : scn p sz a = scn p sz (a + 1) := by
  unfold scn
  obtain ⟨f, hf⟩ : ∃ f, sz - a = f + 1 := ⟨sz - a - 1, by omega⟩
  rw [hf, show sz - (a + 1) = f by omega]
  show (if a < sz ∧ p a = true then _ else _) = _
  rw [if_pos ⟨h1, h2⟩]
theorem scn_st {p : Nat → Bool} {sz a : Nat} (h : ¬ (a < sz ∧ p a = true)) : scn p sz a = a := by
  unfold scn
  cases hf : sz - a with
  | zero => rfl
  | succ f =>
    show (if a < sz ∧ p a = true then _ else _) = _
    rw [if_neg h]
theorem scn_le {p : Nat → Bool} {sz : Nat} : ∀ f a, sz - a = f → a ≤ sz → a ≤ scn p sz a ∧ scn p sz a ≤ sz
  | 0, a, hf, h => by rw [scn_st (by omega)]; omega
  | f + 1, a, hf, h => by
    by_cases hp : a < sz ∧ p a = true
    · rw [scn_go hp.1 hp.2]
      have := scn_le (p := p) (sz := sz) f (a + 1) (by omega) (by omega)
      omega
    · rw [scn_st hp]; omega
def ltrQ (x : Nat) : Bool := decide (97 ≤ x ∧ x ≤ 122)
def dgtQ (x : Nat) : Bool := decide (48 ≤ x ∧ x ≤ 57)
def mrkQ (x : Nat) : Bool := decide (x = 59 ∨ x = 40 ∨ x = 41 ∨ x = 43 ∨ x = 45 ∨ x = 42 ∨ x = 47 ∨ x = 60 ∨ x = 61)
def blkQ (x : Nat) : Bool := decide (x = 32 ∨ x = 10)
def tBeg (tp : Nat → Nat) (sz a : Nat) : Nat := scn (fun k => blkQ (tp k)) sz a
def tKd (tp : Nat → Nat) (sz b : Nat) : Nat := if sz ≤ b then 0 else if ltrQ (tp b) = true then 1 else if dgtQ (tp b) = true then 2 else if mrkQ (tp b) = true then 3 else 4
def tEnd (tp : Nat → Nat) (sz b : Nat) : Nat := if sz ≤ b then b else if ltrQ (tp b) = true then scn (fun k => ltrQ (tp k)) sz b else if dgtQ (tp b) = true then scn (fun k => dgtQ (tp k)) sz b else b + 1
def tVal (tp : Nat → Nat) (b : Nat) : Nat → Nat
  | 0 => 0
  | k + 1 => if 10 * tVal tp b k + tp (b + k) - 48 < 100000 then 10 * tVal tp b k + tp (b + k) - 48 else 100000
theorem tVal_le (tp : Nat → Nat) (b : Nat) : ∀ k, tVal tp b k ≤ 100000
  | 0 => Nat.zero_le _
  | k + 1 => by
    show (if _ then _ else _) ≤ _
    split <;> omega
def TK (I : Nat → Nat → Int32) (sz : Nat) (tp : Nat → Nat) : Prop := I 1069 19 = nI sz ∧ sz ≤ 700 ∧ ∀ k, k < sz → I 1085 k = nI (tp k) ∧ tp k < 256
/-- what stepping on changes -/
def stpF (b j : Nat) : Bool := decide (b = 1069 ∧ (j = 18 ∨ j = 20 ∨ j = 21 ∨ j = 22 ∨ j = 23))
def eqT (I J : Nat → Nat → Int32) : Prop := ∀ b j : Nat, stpF b j = false → J b j = I b j
theorem eqT_r (I : Nat → Nat → Int32) : eqT I I := fun _ _ _ => rfl
theorem eqT_t {I J K : Nat → Nat → Int32} (h1 : eqT I J) (h2 : eqT J K) : eqT I K := fun b j h => (h2 b j h).trans (h1 b j h)
theorem eqT_u {I J : Nat → Nat → Int32} {a k : Nat} {v : Int32} (h : eqT I J) (ha : stpF a k = true) : eqT I (upI J a k v) := fun b j hb => by
  by_cases e : b = a ∧ j = k
  · rw [e.1, e.2, ha] at hb; cases hb
  · have : upI J a k v b j = J b j := by simp [upI, e]
    rw [this]; exact h b j hb
theorem TK.t {I J : Nat → Nat → Int32} {sz : Nat} {tp : Nat → Nat} (h : TK I sz tp) (he : eqT I J) : TK J sz tp :=
  ⟨(he 1069 19 (by decide)).trans h.1, h.2.1, fun k hk => ⟨(he 1085 k (by unfold stpF; simp)).trans (h.2.2 k hk).1, (h.2.2 k hk).2⟩⟩
/-- the token that is read next stands, having begun at place b -/
def TS1 (J : Nat → Nat → Int32) (sz : Nat) (tp : Nat → Nat) (b : Nat) : Prop := J 1069 18 = nI (tEnd tp sz b) ∧ J 1069 20 = nI (tKd tp sz b) ∧ J 1069 22 = nI b ∧ J 1069 23 = nI (tEnd tp sz b) ∧ (tKd tp sz b = 2 → J 1069 21 = nI (tVal tp b (tEnd tp sz b - b)))
section RV
variable {w : jWD} {l : Launch} {n : Nat} {I J : Nat → Nat → Int32} {L : Nat → Nat → Int64} {R : Nat → Nat → Option Nat}

set_option maxHeartbeats 1000000 in
set_option maxRecDepth 20000 in
theorem tX11_byteAt (hW : jWok w l) (hR : RS R) {sz k : Nat} {tp : Nat → Nat} (hK : TK I sz tp) (hk : k ≤ 700)  : jCD w l mX11_byteAt 1 [.ref 1069, .int (nI k)] (n, shE, I, L, R) (some (.int (oI (if k < sz then some (tp k) else none)))) (n, shE, I, L, R) := by
  refine jCD_of hW (by decide) rfl (Nat.le_of_ble_eq_true rfl) ?_
  have hz7 := hK.2.1
  refine jx_iload_n dX11_byteAt_0 rfl ?_
  refine jx_aload_n dX11_byteAt_1 rfl ?_
  refine jx_getIE dX11_byteAt_2 flX11_201 rfl rfl (hK.1) ?_
  refine jx_icmpN_ge (a := k) (b := sz) 17 dX11_byteAt_5 (by decide) (by omega) (by omega) (fun h5 => ?_) (fun h5 => ?_)
  · refine jx_iconst (v := -1) dX11_byteAt_17 (by decide) ?_
    refine jx_iret dX11_byteAt_18 rfl ?_
    refine ⟨?_, rfl⟩
    first | (rw [if_pos h5]; rfl) | (rw [if_neg (by omega)]; rfl)
  · refine jx_aload_n dX11_byteAt_8 rfl ?_
    refine jx_getR dX11_byteAt_9 flX11_75 rfl rfl (hR _ _ _ rfl) ?_
    refine jx_iload_n dX11_byteAt_12 rfl ?_
    refine jx_ialdE (k) dX11_byteAt_13 rfl (rfl) (by omega) (by omega) ((hK.2.2 k h5).1) ?_
    refine jx_goto 18 dX11_byteAt_14 (by decide) ?_
    refine jx_iret dX11_byteAt_18 rfl ?_
    refine ⟨?_, rfl⟩
    first | (rw [if_pos h5]; rfl) | (rw [if_neg (by omega)]; rfl)
set_option maxHeartbeats 1000000 in
set_option maxRecDepth 20000 in
theorem tX11_isLetter (hW : jWok w l) {x : Nat} (hx : x < 256) (σ : jHS) : jCD w l mX11_isLetter 1 [.int (nI x)] σ (some (.int (jb (ltrQ x)))) σ := by
  refine jCD_of hW (by decide) rfl (Nat.le_of_ble_eq_true rfl) ?_
  refine jx_iload_n dX11_isLetter_0 rfl ?_
  refine jx_bipush (v := 97) dX11_isLetter_1 (by decide) ?_
  refine jx_icmpN_lt (a := x) (b := 97) 16 dX11_isLetter_3 (by decide) (by omega) (by omega) (fun h3 => ?_) (fun h3 => ?_)
  · refine jx_iconst (v := 0) dX11_isLetter_16 (by decide) ?_
    refine jx_zret dX11_isLetter_17 rfl ?_ ?_
    · first | exact Or.inl rfl | exact Or.inr rfl | exact jb_or _
    refine ⟨?_, rfl⟩
    rw [show ltrQ x = false from decide_eq_false (by omega)]; rfl
  · refine jx_iload_n dX11_isLetter_6 rfl ?_
    refine jx_bipush (v := 122) dX11_isLetter_7 (by decide) ?_
    refine jx_icmpN_gt (a := x) (b := 122) 16 dX11_isLetter_9 (by decide) (by omega) (by omega) (fun h9 => ?_) (fun h9 => ?_)
    · refine jx_iconst (v := 0) dX11_isLetter_16 (by decide) ?_
      refine jx_zret dX11_isLetter_17 rfl ?_ ?_
      · first | exact Or.inl rfl | exact Or.inr rfl | exact jb_or _
      refine ⟨?_, rfl⟩
      rw [show ltrQ x = false from decide_eq_false (by omega)]; rfl
    · refine jx_iconst (v := 1) dX11_isLetter_12 (by decide) ?_
      refine jx_goto 17 dX11_isLetter_13 (by decide) ?_
      refine jx_zret dX11_isLetter_17 rfl ?_ ?_
      · first | exact Or.inl rfl | exact Or.inr rfl | exact jb_or _
      refine ⟨?_, rfl⟩
      rw [show ltrQ x = true from decide_eq_true (by omega)]; rfl
theorem tX11_isLetter0 (hW : jWok w l) (σ : jHS) : jCD w l mX11_isLetter 1 [.int (-1)] σ (some (.int (jb false))) σ := by
  refine jCD_of hW (by decide) rfl (Nat.le_of_ble_eq_true rfl) ?_
  refine jx_iload_n dX11_isLetter_0 rfl ?_
  refine jx_bipush (v := 97) dX11_isLetter_1 (by decide) ?_
  refine jx_icmp_lt 16 dX11_isLetter_3 (by decide) (fun h3 => ?_) (fun h3 => ?_)
  · refine jx_iconst (v := 0) dX11_isLetter_16 (by decide) ?_
    refine jx_zret dX11_isLetter_17 rfl ?_ ?_
    · first | exact Or.inl rfl | exact Or.inr rfl | exact jb_or _
    exact ⟨rfl, rfl⟩
  · exact absurd (by decide) h3
set_option maxHeartbeats 1000000 in
set_option maxRecDepth 20000 in
theorem tX11_isDigit (hW : jWok w l) {x : Nat} (hx : x < 256) (σ : jHS) : jCD w l mX11_isDigit 1 [.int (nI x)] σ (some (.int (jb (dgtQ x)))) σ := by
  refine jCD_of hW (by decide) rfl (Nat.le_of_ble_eq_true rfl) ?_
  refine jx_iload_n dX11_isDigit_0 rfl ?_
  refine jx_bipush (v := 48) dX11_isDigit_1 (by decide) ?_
  refine jx_icmpN_lt (a := x) (b := 48) 16 dX11_isDigit_3 (by decide) (by omega) (by omega) (fun h3 => ?_) (fun h3 => ?_)
  · refine jx_iconst (v := 0) dX11_isDigit_16 (by decide) ?_
    refine jx_zret dX11_isDigit_17 rfl ?_ ?_
    · first | exact Or.inl rfl | exact Or.inr rfl | exact jb_or _
    refine ⟨?_, rfl⟩
    rw [show dgtQ x = false from decide_eq_false (by omega)]; rfl
  · refine jx_iload_n dX11_isDigit_6 rfl ?_
    refine jx_bipush (v := 57) dX11_isDigit_7 (by decide) ?_
    refine jx_icmpN_gt (a := x) (b := 57) 16 dX11_isDigit_9 (by decide) (by omega) (by omega) (fun h9 => ?_) (fun h9 => ?_)
    · refine jx_iconst (v := 0) dX11_isDigit_16 (by decide) ?_
      refine jx_zret dX11_isDigit_17 rfl ?_ ?_
      · first | exact Or.inl rfl | exact Or.inr rfl | exact jb_or _
      refine ⟨?_, rfl⟩
      rw [show dgtQ x = false from decide_eq_false (by omega)]; rfl
    · refine jx_iconst (v := 1) dX11_isDigit_12 (by decide) ?_
      refine jx_goto 17 dX11_isDigit_13 (by decide) ?_
      refine jx_zret dX11_isDigit_17 rfl ?_ ?_
      · first | exact Or.inl rfl | exact Or.inr rfl | exact jb_or _
      refine ⟨?_, rfl⟩
      rw [show dgtQ x = true from decide_eq_true (by omega)]; rfl
theorem tX11_isDigit0 (hW : jWok w l) (σ : jHS) : jCD w l mX11_isDigit 1 [.int (-1)] σ (some (.int (jb false))) σ := by
  refine jCD_of hW (by decide) rfl (Nat.le_of_ble_eq_true rfl) ?_
  refine jx_iload_n dX11_isDigit_0 rfl ?_
  refine jx_bipush (v := 48) dX11_isDigit_1 (by decide) ?_
  refine jx_icmp_lt 16 dX11_isDigit_3 (by decide) (fun h3 => ?_) (fun h3 => ?_)
  · refine jx_iconst (v := 0) dX11_isDigit_16 (by decide) ?_
    refine jx_zret dX11_isDigit_17 rfl ?_ ?_
    · first | exact Or.inl rfl | exact Or.inr rfl | exact jb_or _
    exact ⟨rfl, rfl⟩
  · exact absurd (by decide) h3
set_option maxHeartbeats 1000000 in
set_option maxRecDepth 20000 in
theorem tX11_isMark (hW : jWok w l) {x : Nat} (hx : x < 256) (σ : jHS) : jCD w l mX11_isMark 1 [.int (nI x)] σ (some (.int (jb (mrkQ x)))) σ := by
  refine jCD_of hW (by decide) rfl (Nat.le_of_ble_eq_true rfl) ?_
  refine jx_iload_n dX11_isMark_0 rfl ?_
  refine jx_bipush (v := 59) dX11_isMark_1 (by decide) ?_
  refine jx_icmpN_eq (a := x) (b := 59) 54 dX11_isMark_3 (by decide) (by omega) (by omega) (fun h3 => ?_) (fun h3 => ?_)
  · refine jx_iconst (v := 1) dX11_isMark_54 (by decide) ?_
    refine jx_goto 59 dX11_isMark_55 (by decide) ?_
    refine jx_zret dX11_isMark_59 rfl ?_ ?_
    · first | exact Or.inl rfl | exact Or.inr rfl | exact jb_or _
    refine ⟨?_, rfl⟩
    rw [show mrkQ x = true from decide_eq_true (by omega)]; rfl
  · refine jx_iload_n dX11_isMark_6 rfl ?_
    refine jx_bipush (v := 40) dX11_isMark_7 (by decide) ?_
    refine jx_icmpN_eq (a := x) (b := 40) 54 dX11_isMark_9 (by decide) (by omega) (by omega) (fun h9 => ?_) (fun h9 => ?_)
    · refine jx_iconst (v := 1) dX11_isMark_54 (by decide) ?_
      refine jx_goto 59 dX11_isMark_55 (by decide) ?_
      refine jx_zret dX11_isMark_59 rfl ?_ ?_
      · first | exact Or.inl rfl | exact Or.inr rfl | exact jb_or _
      refine ⟨?_, rfl⟩
      rw [show mrkQ x = true from decide_eq_true (by omega)]; rfl
    · refine jx_iload_n dX11_isMark_12 rfl ?_
      refine jx_bipush (v := 41) dX11_isMark_13 (by decide) ?_
      refine jx_icmpN_eq (a := x) (b := 41) 54 dX11_isMark_15 (by decide) (by omega) (by omega) (fun h15 => ?_) (fun h15 => ?_)
      · refine jx_iconst (v := 1) dX11_isMark_54 (by decide) ?_
        refine jx_goto 59 dX11_isMark_55 (by decide) ?_
        refine jx_zret dX11_isMark_59 rfl ?_ ?_
        · first | exact Or.inl rfl | exact Or.inr rfl | exact jb_or _
        refine ⟨?_, rfl⟩
        rw [show mrkQ x = true from decide_eq_true (by omega)]; rfl
      · refine jx_iload_n dX11_isMark_18 rfl ?_
        refine jx_bipush (v := 43) dX11_isMark_19 (by decide) ?_
        refine jx_icmpN_eq (a := x) (b := 43) 54 dX11_isMark_21 (by decide) (by omega) (by omega) (fun h21 => ?_) (fun h21 => ?_)
        · refine jx_iconst (v := 1) dX11_isMark_54 (by decide) ?_
          refine jx_goto 59 dX11_isMark_55 (by decide) ?_
          refine jx_zret dX11_isMark_59 rfl ?_ ?_
          · first | exact Or.inl rfl | exact Or.inr rfl | exact jb_or _
          refine ⟨?_, rfl⟩
          rw [show mrkQ x = true from decide_eq_true (by omega)]; rfl
        · refine jx_iload_n dX11_isMark_24 rfl ?_
          refine jx_bipush (v := 45) dX11_isMark_25 (by decide) ?_
          refine jx_icmpN_eq (a := x) (b := 45) 54 dX11_isMark_27 (by decide) (by omega) (by omega) (fun h27 => ?_) (fun h27 => ?_)
          · refine jx_iconst (v := 1) dX11_isMark_54 (by decide) ?_
            refine jx_goto 59 dX11_isMark_55 (by decide) ?_
            refine jx_zret dX11_isMark_59 rfl ?_ ?_
            · first | exact Or.inl rfl | exact Or.inr rfl | exact jb_or _
            refine ⟨?_, rfl⟩
            rw [show mrkQ x = true from decide_eq_true (by omega)]; rfl
          · refine jx_iload_n dX11_isMark_30 rfl ?_
            refine jx_bipush (v := 42) dX11_isMark_31 (by decide) ?_
            refine jx_icmpN_eq (a := x) (b := 42) 54 dX11_isMark_33 (by decide) (by omega) (by omega) (fun h33 => ?_) (fun h33 => ?_)
            · refine jx_iconst (v := 1) dX11_isMark_54 (by decide) ?_
              refine jx_goto 59 dX11_isMark_55 (by decide) ?_
              refine jx_zret dX11_isMark_59 rfl ?_ ?_
              · first | exact Or.inl rfl | exact Or.inr rfl | exact jb_or _
              refine ⟨?_, rfl⟩
              rw [show mrkQ x = true from decide_eq_true (by omega)]; rfl
            · refine jx_iload_n dX11_isMark_36 rfl ?_
              refine jx_bipush (v := 47) dX11_isMark_37 (by decide) ?_
              refine jx_icmpN_eq (a := x) (b := 47) 54 dX11_isMark_39 (by decide) (by omega) (by omega) (fun h39 => ?_) (fun h39 => ?_)
              · refine jx_iconst (v := 1) dX11_isMark_54 (by decide) ?_
                refine jx_goto 59 dX11_isMark_55 (by decide) ?_
                refine jx_zret dX11_isMark_59 rfl ?_ ?_
                · first | exact Or.inl rfl | exact Or.inr rfl | exact jb_or _
                refine ⟨?_, rfl⟩
                rw [show mrkQ x = true from decide_eq_true (by omega)]; rfl
              · refine jx_iload_n dX11_isMark_42 rfl ?_
                refine jx_bipush (v := 60) dX11_isMark_43 (by decide) ?_
                refine jx_icmpN_eq (a := x) (b := 60) 54 dX11_isMark_45 (by decide) (by omega) (by omega) (fun h45 => ?_) (fun h45 => ?_)
                · refine jx_iconst (v := 1) dX11_isMark_54 (by decide) ?_
                  refine jx_goto 59 dX11_isMark_55 (by decide) ?_
                  refine jx_zret dX11_isMark_59 rfl ?_ ?_
                  · first | exact Or.inl rfl | exact Or.inr rfl | exact jb_or _
                  refine ⟨?_, rfl⟩
                  rw [show mrkQ x = true from decide_eq_true (by omega)]; rfl
                · refine jx_iload_n dX11_isMark_48 rfl ?_
                  refine jx_bipush (v := 61) dX11_isMark_49 (by decide) ?_
                  refine jx_icmpN_ne (a := x) (b := 61) 58 dX11_isMark_51 (by decide) (by omega) (by omega) (fun h51 => ?_) (fun h51 => ?_)
                  · refine jx_iconst (v := 0) dX11_isMark_58 (by decide) ?_
                    refine jx_zret dX11_isMark_59 rfl ?_ ?_
                    · first | exact Or.inl rfl | exact Or.inr rfl | exact jb_or _
                    refine ⟨?_, rfl⟩
                    rw [show mrkQ x = false from decide_eq_false (by omega)]; rfl
                  · refine jx_iconst (v := 1) dX11_isMark_54 (by decide) ?_
                    refine jx_goto 59 dX11_isMark_55 (by decide) ?_
                    refine jx_zret dX11_isMark_59 rfl ?_ ?_
                    · first | exact Or.inl rfl | exact Or.inr rfl | exact jb_or _
                    refine ⟨?_, rfl⟩
                    rw [show mrkQ x = true from decide_eq_true (by omega)]; rfl
set_option maxHeartbeats 1000000 in
set_option maxRecDepth 20000 in
theorem tX11_wrong (hW : jWok w l) {b : Nat} (hb : I 1069 24 = nI b) (hb5 : b ≤ 5) (k : Int32) : jCD w l mX11_wrong 1 [.ref 1069, .int k] (n, shE, I, L, R) none (n, shE, if b = 0 then upI (upI I 1069 24 k) 1069 25 (I 1069 22) else I, L, R) := by
  refine jCD_of hW (by decide) rfl (Nat.le_of_ble_eq_true rfl) ?_
  refine jx_aload_n dX11_wrong_0 rfl ?_
  refine jx_getIE dX11_wrong_1 flX11_240 rfl rfl (hb) ?_
  refine jx_ifN_eq (a := b) 8 dX11_wrong_4 (by decide) (by omega) (fun h4 => ?_) (fun h4 => ?_)
  · refine jx_aload_n dX11_wrong_8 rfl ?_
    refine jx_iload_n dX11_wrong_9 rfl ?_
    refine jx_putI dX11_wrong_10 flX11_240 rfl rfl (fun r h => by cases h; rfl) ?_
    refine jx_aload_n dX11_wrong_13 rfl ?_
    refine jx_aload_n dX11_wrong_14 rfl ?_
    refine jx_getI dX11_wrong_15 flX11_211 rfl rfl ?_
    refine jx_putI dX11_wrong_18 flX11_243 rfl rfl (fun r h => by cases h; rfl) ?_
    refine jx_vret dX11_wrong_21 rfl ?_
    rw [if_pos h4]
    exact ⟨rfl, rfl⟩
  · refine jx_vret dX11_wrong_7 rfl ?_
    rw [if_neg h4]
    exact ⟨rfl, rfl⟩
theorem tX11_byteAtS (hW : jWok w l) (hR : RS R) {sz k : Nat} {tp : Nat → Nat} (hK : TK J sz tp) (hk : k < sz) : jCD w l mX11_byteAt 1 [.ref 1069, .int (nI k)] (n, shE, J, L, R) (some (.int (nI (tp k)))) (n, shE, J, L, R) := by
  have := tX11_byteAt (n := n) (L := L) hW hR hK (k := k) (by have := hK.2.1; omega)
  rw [if_pos hk] at this
  exact this
theorem tX11_byteAtN (hW : jWok w l) (hR : RS R) {sz k : Nat} {tp : Nat → Nat} (hK : TK J sz tp) (hk : ¬ k < sz) (hk7 : k ≤ 700) : jCD w l mX11_byteAt 1 [.ref 1069, .int (nI k)] (n, shE, J, L, R) (some (.int (-1))) (n, shE, J, L, R) := by
  have := tX11_byteAt (n := n) (L := L) hW hR hK (k := k) hk7
  rw [if_neg hk] at this
  exact this
set_option maxHeartbeats 1000000 in
set_option maxRecDepth 20000 in
theorem tX11_stepOn (hW : jWok w l) (hR : RS R) {sz a : Nat} {tp : Nat → Nat} (hK : TK I sz tp) (ha : I 1069 18 = nI a) (has : a ≤ sz) : jRv w l mX11_stepOn 2 [.ref 1069] (n, shE, I, L, R) (fun t => ∃ J, t = (n, shE, J, L, R) ∧ eqT I J ∧ TS1 J sz tp (tBeg tp sz a)) := by
  refine jRv_of hW (by decide) rfl (Nat.le_of_ble_eq_true rfl) ?_
  have hz7 := hK.2.1
  obtain ⟨B, hB⟩ : ∃ B, B = tBeg tp sz a := ⟨_, rfl⟩
  rw [← hB]
  obtain ⟨hB1, hB2⟩ := scn_le (p := fun k => blkQ (tp k)) (sz := sz) _ a rfl has
  change a ≤ tBeg tp sz a at hB1
  change tBeg tp sz a ≤ sz at hB2
  rw [← hB] at hB1 hB2
  have key212 : ∀ J, eqT I J → J 1069 18 = nI (tEnd tp sz B) → J 1069 20 = nI (tKd tp sz B) → J 1069 22 = nI B → (tKd tp sz B = 2 → J 1069 21 = nI (tVal tp B (tEnd tp sz B - B))) → ∀ x1, jWP w l mX11_stepOn 2 0 0 (fun v t => v = none ∧ (fun t => ∃ J, t = (n, shE, J, L, R) ∧ eqT I J ∧ TS1 J sz tp B) t) (fun _ _ => False) 212 [(0, .ref 1069), (1, .int x1)] [] (n, shE, J, L, R) := by
    intro J he e18 e20 e22 e21 x1
    refine jx_aload_n dX11_stepOn_212 rfl ?_
    refine jx_aload_n dX11_stepOn_213 rfl ?_
    refine jx_getIE dX11_stepOn_214 flX11_204 rfl rfl (e18) ?_
    refine jx_putI dX11_stepOn_217 flX11_237 rfl rfl (fun r h => by cases h; rfl) ?_
    refine jx_vret dX11_stepOn_220 rfl ?_
    refine ⟨rfl, _, rfl, eqT_u he (by decide), (upI_j (by decide)).trans e18, (upI_j (by decide)).trans e20, (upI_j (by decide)).trans e22, upI_s, fun q => (upI_j (by decide)).trans (e21 q)⟩
  have key76 : B < sz → ltrQ (tp B) = true → ∀ f e J, sz - e = f → e ≤ sz → scn (fun k => ltrQ (tp k)) sz e = tEnd tp sz B → eqT I J → J 1069 18 = nI e → J 1069 22 = nI B → ∀ x1, jWP w l mX11_stepOn 2 0 0 (fun v t => v = none ∧ (fun t => ∃ J, t = (n, shE, J, L, R) ∧ eqT I J ∧ TS1 J sz tp B) t) (fun _ _ => False) 76 [(0, .ref 1069), (1, .int x1)] [] (n, shE, J, L, R) := by
    intro hBs hlt f
    have hkd : tKd tp sz B = 1 := by unfold tKd; rw [if_neg (by omega), if_pos hlt]
    induction f with
    | zero =>
      intro e J hf hes hsc he e18 e22 x1
      have hns : ¬ e < sz := by omega
      have hse := scn_st (p := fun k => ltrQ (tp k)) (sz := sz) (a := e) (fun q => hns q.1)
      refine jx_aload_n dX11_stepOn_76 rfl ?_
      refine jx_aload_n dX11_stepOn_77 rfl ?_
      refine jx_getIE dX11_stepOn_78 flX11_204 rfl rfl (e18) ?_
      refine jx_Vi (as := [.int _]) dX11_stepOn_81 mlX11_207 okX11_byteAt viX11_byteAt rfl rfl rfl rfl rfl (by decide) (Nat.le_of_ble_eq_true rfl) (tX11_byteAtN hW hR (hK.t he) hns (by omega)) ?_
      refine jx_Si (as := [.int _]) dX11_stepOn_84 mlX11_217 okX11_isLetter stX11_isLetter rfl rfl (by decide) (Nat.le_of_ble_eq_true rfl) (tX11_isLetter0 hW _) ?_
      refine jx_ifB_eq 103 dX11_stepOn_87 (by decide) (fun h87 => ?_) (fun h87 => by cases h87)
      refine jx_aload_n dX11_stepOn_103 rfl ?_
      refine jx_iconst (v := 1) dX11_stepOn_104 (by decide) ?_
      refine jx_putI dX11_stepOn_105 flX11_214 rfl rfl (fun r h => by cases h; rfl) ?_
      refine jx_goto 212 dX11_stepOn_108 (by decide) ?_
      exact jx_ls (by exact ⟨rfl, rfl, trivial⟩) (key212 _ (eqT_u he (by decide)) ((upI_j (by decide)).trans (by rw [e18, ← hsc, hse])) (by rw [upI_s, hkd]; rfl) ((upI_j (by decide)).trans e22) (fun q => by rw [hkd] at q; cases q) _)
    | succ f ih =>
      intro e J hf hes hsc he e18 e22 x1
      have hls : e < sz := by omega
      have htp := ((hK.t he).2.2 e hls).2
      refine jx_aload_n dX11_stepOn_76 rfl ?_
      refine jx_aload_n dX11_stepOn_77 rfl ?_
      refine jx_getIE dX11_stepOn_78 flX11_204 rfl rfl (e18) ?_
      refine jx_Vi (as := [.int _]) dX11_stepOn_81 mlX11_207 okX11_byteAt viX11_byteAt rfl rfl rfl rfl rfl (by decide) (Nat.le_of_ble_eq_true rfl) (tX11_byteAtS hW hR (hK.t he) hls) ?_
      refine jx_Si (as := [.int _]) dX11_stepOn_84 mlX11_217 okX11_isLetter stX11_isLetter rfl rfl (by decide) (Nat.le_of_ble_eq_true rfl) (tX11_isLetter hW htp _) ?_
      refine jx_ifB_eq 103 dX11_stepOn_87 (by decide) (fun h87 => ?_) (fun h87 => ?_)
      · have hse := scn_st (p := fun k => ltrQ (tp k)) (sz := sz) (a := e) (fun q => by rw [h87] at q; cases q.2)
        refine jx_aload_n dX11_stepOn_103 rfl ?_
        refine jx_iconst (v := 1) dX11_stepOn_104 (by decide) ?_
        refine jx_putI dX11_stepOn_105 flX11_214 rfl rfl (fun r h => by cases h; rfl) ?_
        refine jx_goto 212 dX11_stepOn_108 (by decide) ?_
        exact jx_ls (by exact ⟨rfl, rfl, trivial⟩) (key212 _ (eqT_u he (by decide)) ((upI_j (by decide)).trans (by rw [e18, ← hsc, hse])) (by rw [upI_s, hkd]; rfl) ((upI_j (by decide)).trans e22) (fun q => by rw [hkd] at q; cases q) _)
      · refine jx_aload_n dX11_stepOn_90 rfl ?_
        refine jx_dup dX11_stepOn_91 rfl ?_
        refine jx_getIE dX11_stepOn_92 flX11_204 rfl rfl (e18) ?_
        refine jx_iconst (v := 1) dX11_stepOn_95 (by decide) ?_
        refine jx_iaddE (z := nI (e + 1)) dX11_stepOn_96 (nI_add e 1) ?_
        refine jx_putI dX11_stepOn_97 flX11_204 rfl rfl (fun r h => by cases h; rfl) ?_
        refine jx_goto 76 dX11_stepOn_100 (by decide) ?_
        exact jx_ls (by exact ⟨rfl, rfl, trivial⟩) (ih (e + 1) _ (by omega) (by omega) (by rw [← hsc]; exact (scn_go (p := fun k => ltrQ (tp k)) hls h87).symm) (eqT_u he (by decide)) upI_s ((upI_j (by decide)).trans e22) _)
  have key123 : B < sz → ltrQ (tp B) = false → dgtQ (tp B) = true → ∀ f e J, sz - e = f → e ≤ sz → B ≤ e → scn (fun k => dgtQ (tp k)) sz e = tEnd tp sz B → eqT I J → J 1069 18 = nI e → J 1069 22 = nI B → J 1069 21 = nI (tVal tp B (e - B)) → ∀ x1, jWP w l mX11_stepOn 2 0 0 (fun v t => v = none ∧ (fun t => ∃ J, t = (n, shE, J, L, R) ∧ eqT I J ∧ TS1 J sz tp B) t) (fun _ _ => False) 123 [(0, .ref 1069), (1, .int x1)] [] (n, shE, J, L, R) := by
    intro hBs hlt hdg f
    have hkd : tKd tp sz B = 2 := by unfold tKd; rw [if_neg (by omega), if_neg (by rw [hlt]; decide), if_pos hdg]
    induction f with
    | zero =>
      intro e J hf hes hBe hsc he e18 e22 e21 x1
      have hns : ¬ e < sz := by omega
      have hse := scn_st (p := fun k => dgtQ (tp k)) (sz := sz) (a := e) (fun q => hns q.1)
      refine jx_aload_n dX11_stepOn_123 rfl ?_
      refine jx_aload_n dX11_stepOn_124 rfl ?_
      refine jx_getIE dX11_stepOn_125 flX11_204 rfl rfl (e18) ?_
      refine jx_Vi (as := [.int _]) dX11_stepOn_128 mlX11_207 okX11_byteAt viX11_byteAt rfl rfl rfl rfl rfl (by decide) (Nat.le_of_ble_eq_true rfl) (tX11_byteAtN hW hR (hK.t he) hns (by omega)) ?_
      refine jx_Si (as := [.int _]) dX11_stepOn_131 mlX11_221 okX11_isDigit stX11_isDigit rfl rfl (by decide) (Nat.le_of_ble_eq_true rfl) (tX11_isDigit0 hW _) ?_
      refine jx_ifB_eq 178 dX11_stepOn_134 (by decide) (fun h134 => ?_) (fun h134 => by cases h134)
      refine jx_aload_n dX11_stepOn_178 rfl ?_
      refine jx_iconst (v := 2) dX11_stepOn_179 (by decide) ?_
      refine jx_putI dX11_stepOn_180 flX11_214 rfl rfl (fun r h => by cases h; rfl) ?_
      refine jx_goto 212 dX11_stepOn_183 (by decide) ?_
      exact jx_ls (by exact ⟨rfl, rfl, trivial⟩) (key212 _ (eqT_u he (by decide)) ((upI_j (by decide)).trans (by rw [e18, ← hsc, hse])) (by rw [upI_s, hkd]; rfl) ((upI_j (by decide)).trans e22) (fun _ => (upI_j (by decide)).trans (by rw [e21, ← hsc, hse])) _)
    | succ f ih =>
      intro e J hf hes hBe hsc he e18 e22 e21 x1
      have hls : e < sz := by omega
      have htp := ((hK.t he).2.2 e hls).2
      have hvl := tVal_le tp B (e - B)
      refine jx_aload_n dX11_stepOn_123 rfl ?_
      refine jx_aload_n dX11_stepOn_124 rfl ?_
      refine jx_getIE dX11_stepOn_125 flX11_204 rfl rfl (e18) ?_
      refine jx_Vi (as := [.int _]) dX11_stepOn_128 mlX11_207 okX11_byteAt viX11_byteAt rfl rfl rfl rfl rfl (by decide) (Nat.le_of_ble_eq_true rfl) (tX11_byteAtS hW hR (hK.t he) hls) ?_
      refine jx_Si (as := [.int _]) dX11_stepOn_131 mlX11_221 okX11_isDigit stX11_isDigit rfl rfl (by decide) (Nat.le_of_ble_eq_true rfl) (tX11_isDigit hW htp _) ?_
      refine jx_ifB_eq 178 dX11_stepOn_134 (by decide) (fun h134 => ?_) (fun h134 => ?_)
      · have hse := scn_st (p := fun k => dgtQ (tp k)) (sz := sz) (a := e) (fun q => by rw [h134] at q; cases q.2)
        refine jx_aload_n dX11_stepOn_178 rfl ?_
        refine jx_iconst (v := 2) dX11_stepOn_179 (by decide) ?_
        refine jx_putI dX11_stepOn_180 flX11_214 rfl rfl (fun r h => by cases h; rfl) ?_
        refine jx_goto 212 dX11_stepOn_183 (by decide) ?_
        exact jx_ls (by exact ⟨rfl, rfl, trivial⟩) (key212 _ (eqT_u he (by decide)) ((upI_j (by decide)).trans (by rw [e18, ← hsc, hse])) (by rw [upI_s, hkd]; rfl) ((upI_j (by decide)).trans e22) (fun _ => (upI_j (by decide)).trans (by rw [e21, ← hsc, hse])) _)
      · have hd48 : 48 ≤ tp e ∧ tp e ≤ 57 := of_decide_eq_true h134
        refine jx_aload_n dX11_stepOn_137 rfl ?_
        refine jx_ldc dX11_stepOn_138 ctX11_227 ?_
        refine jx_bipush (v := 10) dX11_stepOn_140 (by decide) ?_
        refine jx_aload_n dX11_stepOn_142 rfl ?_
        refine jx_getIE dX11_stepOn_143 flX11_224 rfl rfl (e21) ?_
        refine jx_imulE (z := nI (10 * (tVal tp B (e - B)))) dX11_stepOn_146 (pk_mul 10 (tVal tp B (e - B))) ?_
        refine jx_aload_n dX11_stepOn_147 rfl ?_
        refine jx_aload_n dX11_stepOn_148 rfl ?_
        refine jx_getIE dX11_stepOn_149 flX11_204 rfl rfl (e18) ?_
        refine jx_Vi (as := [.int _]) dX11_stepOn_152 mlX11_207 okX11_byteAt viX11_byteAt rfl rfl rfl rfl rfl (by decide) (Nat.le_of_ble_eq_true rfl) (tX11_byteAtS hW hR (hK.t he) hls) ?_
        refine jx_iaddE (z := nI ((10 * (tVal tp B (e - B))) + (tp e))) dX11_stepOn_155 (nI_add (10 * (tVal tp B (e - B))) (tp e)) ?_
        refine jx_bipush (v := 48) dX11_stepOn_156 (by decide) ?_
        refine jx_isubE (z := nI (((10 * (tVal tp B (e - B))) + (tp e)) - 48)) dX11_stepOn_158 (pk_sub (a := ((10 * (tVal tp B (e - B))) + (tp e))) (b := 48) (by omega)) ?_
        refine jx_Si (as := [.int _, .int _]) dX11_stepOn_159 mlX11_228 okJ9_min_7cf53 stJ9_min_7cf53 rfl rfl (by decide) (Nat.le_of_ble_eq_true rfl) (tJ9_min_7cf53 hW _ _ _) ?_
        rw [show (if nI (10 * tVal tp B (e - B) + tp e - 48) < 100000 then nI (10 * tVal tp B (e - B) + tp e - 48) else 100000) = nI (tVal tp B (e + 1 - B)) from by
          rw [show e + 1 - B = (e - B) + 1 by omega]
          show _ = nI (if 10 * tVal tp B (e - B) + tp (B + (e - B)) - 48 < 100000 then 10 * tVal tp B (e - B) + tp (B + (e - B)) - 48 else 100000)
          rw [show B + (e - B) = e by omega]
          by_cases z : 10 * tVal tp B (e - B) + tp e - 48 < 100000
          · have hz : nI (10 * tVal tp B (e - B) + tp e - 48) < (100000 : Int32) := (nI_ltI (b := 100000) (by omega) (by omega)).mpr z
            rw [if_pos z, if_pos hz]
          · have hz : ¬ nI (10 * tVal tp B (e - B) + tp e - 48) < (100000 : Int32) := fun q => z ((nI_ltI (b := 100000) (by omega) (by omega)).mp q)
            rw [if_neg z, if_neg hz]; rfl]
        refine jx_putI dX11_stepOn_162 flX11_224 rfl rfl (fun r h => by cases h; rfl) ?_
        refine jx_aload_n dX11_stepOn_165 rfl ?_
        refine jx_dup dX11_stepOn_166 rfl ?_
        refine jx_getIE dX11_stepOn_167 flX11_204 rfl rfl ((upI_j (by decide)).trans e18) ?_
        refine jx_iconst (v := 1) dX11_stepOn_170 (by decide) ?_
        refine jx_iaddE (z := nI (e + 1)) dX11_stepOn_171 (nI_add e 1) ?_
        refine jx_putI dX11_stepOn_172 flX11_204 rfl rfl (fun r h => by cases h; rfl) ?_
        refine jx_goto 123 dX11_stepOn_175 (by decide) ?_
        exact jx_ls (by exact ⟨rfl, rfl, trivial⟩) (ih (e + 1) _ (by omega) (by omega) (by omega) (by rw [← hsc]; exact (scn_go (p := fun k => dgtQ (tp k)) hls h134).symm) (eqT_u (eqT_u he (by decide)) (by decide)) upI_s ((upI_j (by decide)).trans ((upI_j (by decide)).trans e22)) ((upI_j (by decide)).trans upI_s) _)
  have key39 : ∀ J, eqT I J → J 1069 18 = nI B → jWP w l mX11_stepOn 2 0 0 (fun v t => v = none ∧ (fun t => ∃ J, t = (n, shE, J, L, R) ∧ eqT I J ∧ TS1 J sz tp B) t) (fun _ _ => False) 39 [(0, .ref 1069)] [] (n, shE, J, L, R) := by
    intro J he e18
    by_cases hBs : B < sz
    · have htp := ((hK.t he).2.2 B hBs).2
      refine jx_aload_n dX11_stepOn_39 rfl ?_
      refine jx_aload_n dX11_stepOn_40 rfl ?_
      refine jx_getIE dX11_stepOn_41 flX11_204 rfl rfl (e18) ?_
      refine jx_putI dX11_stepOn_44 flX11_211 rfl rfl (fun r h => by cases h; rfl) ?_
      refine jx_aload_n dX11_stepOn_47 rfl ?_
      refine jx_aload_n dX11_stepOn_48 rfl ?_
      refine jx_getIE dX11_stepOn_49 flX11_204 rfl rfl ((upI_j (by decide)).trans e18) ?_
      refine jx_Vi (as := [.int _]) dX11_stepOn_52 mlX11_207 okX11_byteAt viX11_byteAt rfl rfl rfl rfl rfl (by decide) (Nat.le_of_ble_eq_true rfl) (tX11_byteAtS hW hR (hK.t (eqT_u he (by decide))) hBs) ?_
      refine jx_istore_n dX11_stepOn_55 rfl (by decide) ?_
      refine jx_iload_n dX11_stepOn_56 rfl ?_
      refine jx_iconst (v := -1) dX11_stepOn_57 (by decide) ?_
      refine jx_icmp_ne 69 dX11_stepOn_58 (by decide) (fun h58 => ?_) (fun h58 => ?_)
      · refine jx_iload_n dX11_stepOn_69 rfl ?_
        refine jx_Si (as := [.int _]) dX11_stepOn_70 mlX11_217 okX11_isLetter stX11_isLetter rfl rfl (by decide) (Nat.le_of_ble_eq_true rfl) (tX11_isLetter hW htp _) ?_
        refine jx_ifB_eq 111 dX11_stepOn_73 (by decide) (fun h73 => ?_) (fun h73 => ?_)
        · refine jx_iload_n dX11_stepOn_111 rfl ?_
          refine jx_Si (as := [.int _]) dX11_stepOn_112 mlX11_221 okX11_isDigit stX11_isDigit rfl rfl (by decide) (Nat.le_of_ble_eq_true rfl) (tX11_isDigit hW htp _) ?_
          refine jx_ifB_eq 186 dX11_stepOn_115 (by decide) (fun h115 => ?_) (fun h115 => ?_)
          · have hen : tEnd tp sz B = B + 1 := by unfold tEnd; rw [if_neg (by omega), if_neg (by rw [h73]; decide), if_neg (by rw [h115]; decide)]
            have hk3 : tKd tp sz B = if mrkQ (tp B) = true then 3 else 4 := by unfold tKd; rw [if_neg (by omega), if_neg (by rw [h73]; decide), if_neg (by rw [h115]; decide)]
            refine jx_aload_n dX11_stepOn_186 rfl ?_
            refine jx_dup dX11_stepOn_187 rfl ?_
            refine jx_getIE dX11_stepOn_188 flX11_204 rfl rfl ((upI_j (by decide)).trans e18) ?_
            refine jx_iconst (v := 1) dX11_stepOn_191 (by decide) ?_
            refine jx_iaddE (z := nI (B + 1)) dX11_stepOn_192 (nI_add B 1) ?_
            refine jx_putI dX11_stepOn_193 flX11_204 rfl rfl (fun r h => by cases h; rfl) ?_
            refine jx_aload_n dX11_stepOn_196 rfl ?_
            refine jx_iload_n dX11_stepOn_197 rfl ?_
            refine jx_Si (as := [.int _]) dX11_stepOn_198 mlX11_234 okX11_isMark stX11_isMark rfl rfl (by decide) (Nat.le_of_ble_eq_true rfl) (tX11_isMark hW htp _) ?_
            refine jx_ifB_eq 208 dX11_stepOn_201 (by decide) (fun h201 => ?_) (fun h201 => ?_)
            · refine jx_iconst (v := 4) dX11_stepOn_208 (by decide) ?_
              refine jx_putI dX11_stepOn_209 flX11_214 rfl rfl (fun r h => by cases h; rfl) ?_
              have hkd : tKd tp sz B = 3 ∨ tKd tp sz B = 4 := by rw [hk3]; split <;> simp
              refine jx_ls (by exact ⟨rfl, rfl, trivial⟩) (key212 _ (eqT_u (eqT_u (eqT_u he (by decide)) (by decide)) (by decide)) ((upI_j (by decide)).trans (by rw [upI_s, hen])) ?_ ((upI_j (by decide)).trans ((upI_j (by decide)).trans upI_s)) (fun q => by omega) _)
              rw [upI_s, hk3]
              first | (rw [if_pos h201]; rfl) | (rw [if_neg (by rw [h201]; decide)]; rfl)
            · refine jx_iconst (v := 3) dX11_stepOn_204 (by decide) ?_
              refine jx_goto 209 dX11_stepOn_205 (by decide) ?_
              refine jx_putI dX11_stepOn_209 flX11_214 rfl rfl (fun r h => by cases h; rfl) ?_
              have hkd : tKd tp sz B = 3 ∨ tKd tp sz B = 4 := by rw [hk3]; split <;> simp
              refine jx_ls (by exact ⟨rfl, rfl, trivial⟩) (key212 _ (eqT_u (eqT_u (eqT_u he (by decide)) (by decide)) (by decide)) ((upI_j (by decide)).trans (by rw [upI_s, hen])) ?_ ((upI_j (by decide)).trans ((upI_j (by decide)).trans upI_s)) (fun q => by omega) _)
              rw [upI_s, hk3]
              first | (rw [if_pos h201]; rfl) | (rw [if_neg (by rw [h201]; decide)]; rfl)
          · refine jx_aload_n dX11_stepOn_118 rfl ?_
            refine jx_iconst (v := 0) dX11_stepOn_119 (by decide) ?_
            refine jx_putI dX11_stepOn_120 flX11_224 rfl rfl (fun r h => by cases h; rfl) ?_
            exact jx_ls (by exact ⟨rfl, rfl, trivial⟩) (key123 hBs h73 h115 _ B _ rfl hB2 (Nat.le_refl _) (by unfold tEnd; rw [if_neg (by omega), if_neg (by rw [h73]; decide), if_pos h115]) (eqT_u (eqT_u he (by decide)) (by decide)) ((upI_j (by decide)).trans ((upI_j (by decide)).trans e18)) ((upI_j (by decide)).trans upI_s) (by rw [upI_s, Nat.sub_self]; rfl) _)
        · exact jx_ls (by exact ⟨rfl, rfl, trivial⟩) (key76 hBs h73 _ B _ rfl hB2 (by unfold tEnd; rw [if_neg (by omega), if_pos h73]) (eqT_u he (by decide)) ((upI_j (by decide)).trans e18) upI_s _)
      · exfalso
        have e2 := congrArg Int32.toInt h58
        rw [nI_toInt (by omega), show (-1 : Int32).toInt = -1 from by decide] at e2
        omega
    · have hkd : tKd tp sz B = 0 := by unfold tKd; rw [if_pos (by omega)]
      have hen : tEnd tp sz B = B := by unfold tEnd; rw [if_pos (by omega)]
      refine jx_aload_n dX11_stepOn_39 rfl ?_
      refine jx_aload_n dX11_stepOn_40 rfl ?_
      refine jx_getIE dX11_stepOn_41 flX11_204 rfl rfl (e18) ?_
      refine jx_putI dX11_stepOn_44 flX11_211 rfl rfl (fun r h => by cases h; rfl) ?_
      refine jx_aload_n dX11_stepOn_47 rfl ?_
      refine jx_aload_n dX11_stepOn_48 rfl ?_
      refine jx_getIE dX11_stepOn_49 flX11_204 rfl rfl ((upI_j (by decide)).trans e18) ?_
      refine jx_Vi (as := [.int _]) dX11_stepOn_52 mlX11_207 okX11_byteAt viX11_byteAt rfl rfl rfl rfl rfl (by decide) (Nat.le_of_ble_eq_true rfl) (tX11_byteAtN hW hR (hK.t (eqT_u he (by decide))) hBs (by omega)) ?_
      refine jx_istore_n dX11_stepOn_55 rfl (by decide) ?_
      refine jx_iload_n dX11_stepOn_56 rfl ?_
      refine jx_iconst (v := -1) dX11_stepOn_57 (by decide) ?_
      refine jx_icmp_ne 69 dX11_stepOn_58 (by decide) (fun h58 => ?_) (fun h58 => ?_)
      · exact absurd rfl h58
      · refine jx_aload_n dX11_stepOn_61 rfl ?_
        refine jx_iconst (v := 0) dX11_stepOn_62 (by decide) ?_
        refine jx_putI dX11_stepOn_63 flX11_214 rfl rfl (fun r h => by cases h; rfl) ?_
        refine jx_goto 212 dX11_stepOn_66 (by decide) ?_
        exact jx_ls (by exact ⟨rfl, rfl, trivial⟩) (key212 _ (eqT_u (eqT_u he (by decide)) (by decide)) ((upI_j (by decide)).trans ((upI_j (by decide)).trans (by rw [e18, hen]))) (by rw [upI_s, hkd]; rfl) ((upI_j (by decide)).trans upI_s) (fun q => by rw [hkd] at q; cases q) _)
  have key0 : ∀ f e J, sz - e = f → e ≤ sz → tBeg tp sz e = B → eqT I J → J 1069 18 = nI e → jWP w l mX11_stepOn 2 0 0 (fun v t => v = none ∧ (fun t => ∃ J, t = (n, shE, J, L, R) ∧ eqT I J ∧ TS1 J sz tp B) t) (fun _ _ => False) 0 [(0, .ref 1069)] [] (n, shE, J, L, R) := by
    intro f
    induction f with
    | zero =>
      intro e J hf hes hsc he e18
      have hns : ¬ e < sz := by omega
      have hse : e = B := by rw [← hsc]; exact (scn_st (p := fun k => blkQ (tp k)) (sz := sz) (a := e) (fun q => hns q.1)).symm
      refine jx_aload_n dX11_stepOn_0 rfl ?_
      refine jx_aload_n dX11_stepOn_1 rfl ?_
      refine jx_getIE dX11_stepOn_2 flX11_204 rfl rfl (e18) ?_
      refine jx_Vi (as := [.int _]) dX11_stepOn_5 mlX11_207 okX11_byteAt viX11_byteAt rfl rfl rfl rfl rfl (by decide) (Nat.le_of_ble_eq_true rfl) (tX11_byteAtN hW hR (hK.t he) hns (by omega)) ?_
      refine jx_bipush (v := 32) dX11_stepOn_8 (by decide) ?_
      refine jx_icmp_eq 26 dX11_stepOn_10 (by decide) (fun h10 => ?_) (fun h10 => ?_)
      · exact absurd h10 (by decide)
      · refine jx_aload_n dX11_stepOn_13 rfl ?_
        refine jx_aload_n dX11_stepOn_14 rfl ?_
        refine jx_getIE dX11_stepOn_15 flX11_204 rfl rfl (e18) ?_
        refine jx_Vi (as := [.int _]) dX11_stepOn_18 mlX11_207 okX11_byteAt viX11_byteAt rfl rfl rfl rfl rfl (by decide) (Nat.le_of_ble_eq_true rfl) (tX11_byteAtN hW hR (hK.t he) hns (by omega)) ?_
        refine jx_bipush (v := 10) dX11_stepOn_21 (by decide) ?_
        refine jx_icmp_ne 39 dX11_stepOn_23 (by decide) (fun h23 => ?_) (fun h23 => ?_)
        · exact jx_ls (by exact ⟨rfl, trivial⟩) (key39 J he (by rw [e18, hse]))
        · exact absurd h23 (by decide)
    | succ f ih =>
      intro e J hf hes hsc he e18
      have hls : e < sz := by omega
      have htp := ((hK.t he).2.2 e hls).2
      refine jx_aload_n dX11_stepOn_0 rfl ?_
      refine jx_aload_n dX11_stepOn_1 rfl ?_
      refine jx_getIE dX11_stepOn_2 flX11_204 rfl rfl (e18) ?_
      refine jx_Vi (as := [.int _]) dX11_stepOn_5 mlX11_207 okX11_byteAt viX11_byteAt rfl rfl rfl rfl rfl (by decide) (Nat.le_of_ble_eq_true rfl) (tX11_byteAtS hW hR (hK.t he) hls) ?_
      refine jx_bipush (v := 32) dX11_stepOn_8 (by decide) ?_
      refine jx_icmpN_eq (a := (tp e)) (b := 32) 26 dX11_stepOn_10 (by decide) (by omega) (by omega) (fun h10 => ?_) (fun h10 => ?_)
      · have hbl : blkQ (tp e) = true := decide_eq_true (by omega)
        refine jx_aload_n dX11_stepOn_26 rfl ?_
        refine jx_dup dX11_stepOn_27 rfl ?_
        refine jx_getIE dX11_stepOn_28 flX11_204 rfl rfl (e18) ?_
        refine jx_iconst (v := 1) dX11_stepOn_31 (by decide) ?_
        refine jx_iaddE (z := nI (e + 1)) dX11_stepOn_32 (nI_add e 1) ?_
        refine jx_putI dX11_stepOn_33 flX11_204 rfl rfl (fun r h => by cases h; rfl) ?_
        refine jx_goto 0 dX11_stepOn_36 (by decide) ?_
        exact jx_ls (by exact ⟨rfl, trivial⟩) (ih (e + 1) _ (by omega) (by omega) (by rw [← hsc]; exact (scn_go (p := fun k => blkQ (tp k)) hls hbl).symm) (eqT_u he (by decide)) upI_s)
      · refine jx_aload_n dX11_stepOn_13 rfl ?_
        refine jx_aload_n dX11_stepOn_14 rfl ?_
        refine jx_getIE dX11_stepOn_15 flX11_204 rfl rfl (e18) ?_
        refine jx_Vi (as := [.int _]) dX11_stepOn_18 mlX11_207 okX11_byteAt viX11_byteAt rfl rfl rfl rfl rfl (by decide) (Nat.le_of_ble_eq_true rfl) (tX11_byteAtS hW hR (hK.t he) hls) ?_
        refine jx_bipush (v := 10) dX11_stepOn_21 (by decide) ?_
        refine jx_icmpN_ne (a := (tp e)) (b := 10) 39 dX11_stepOn_23 (by decide) (by omega) (by omega) (fun h23 => ?_) (fun h23 => ?_)
        · have hse : e = B := by rw [← hsc]; exact (scn_st (p := fun k => blkQ (tp k)) (sz := sz) (a := e) (fun q => by have := of_decide_eq_true q.2; omega)).symm
          exact jx_ls (by exact ⟨rfl, trivial⟩) (key39 J he (by rw [e18, hse]))
        · have hbl : blkQ (tp e) = true := decide_eq_true (by omega)
          refine jx_aload_n dX11_stepOn_26 rfl ?_
          refine jx_dup dX11_stepOn_27 rfl ?_
          refine jx_getIE dX11_stepOn_28 flX11_204 rfl rfl (e18) ?_
          refine jx_iconst (v := 1) dX11_stepOn_31 (by decide) ?_
          refine jx_iaddE (z := nI (e + 1)) dX11_stepOn_32 (nI_add e 1) ?_
          refine jx_putI dX11_stepOn_33 flX11_204 rfl rfl (fun r h => by cases h; rfl) ?_
          refine jx_goto 0 dX11_stepOn_36 (by decide) ?_
          exact jx_ls (by exact ⟨rfl, trivial⟩) (ih (e + 1) _ (by omega) (by omega) (by rw [← hsc]; exact (scn_go (p := fun k => blkQ (tp k)) hls hbl).symm) (eqT_u he (by decide)) upI_s)
  exact key0 _ a I rfl has hB.symm (eqT_r _) ha
end RV
