/-! THE REFERENCE: its tokens -/
def scan (p : Nat → Bool) (sz : Nat) : Nat → Nat → Nat
  | 0, a => a
  | f + 1, a => if a < sz ∧ p a = true then scan p sz f (a + 1) else a
/-- the first place from a on where p ends -/
def scn (p : Nat → Bool) (sz a : Nat) : Nat := scan p sz (sz - a) a
theorem scn_go {p : Nat → Bool} {sz a : Nat} (h1 : a < sz) (h2 : p a = true) : scn p sz a = scn p sz (a + 1) := by
  unfold scn
  obtain ⟨f, hf⟩ : ∃ f, sz - a = f + 1 := ⟨sz - a - 1, by omega⟩
  rw [hf, show sz - (a + 1) = f by omega]
  show (if a < sz ∧ p a = true then _ else _) = _
  rw [if_pos ⟨h1, h2⟩]
theorem scn_st {p : Nat → Bool} {sz a : Nat} (h : ¬ (a < sz ∧ p a = true)) : scn p sz a = a := by
  unfold scn
  cases hf : sz - a with
  | zero => rfl
  | succ f =>
    show (if a < sz ∧ p a = true then _ else _) = _
    rw [if_neg h]
theorem scn_le {p : Nat → Bool} {sz : Nat} : ∀ f a, sz - a = f → a ≤ sz → a ≤ scn p sz a ∧ scn p sz a ≤ sz
  | 0, a, hf, h => by rw [scn_st (by omega)]; omega
  | f + 1, a, hf, h => by
    by_cases hp : a < sz ∧ p a = true
    · rw [scn_go hp.1 hp.2]
      have := scn_le (p := p) (sz := sz) f (a + 1) (by omega) (by omega)
      omega
    · rw [scn_st hp]; omega
def ltrQ (x : Nat) : Bool := decide (97 ≤ x ∧ x ≤ 122)
def dgtQ (x : Nat) : Bool := decide (48 ≤ x ∧ x ≤ 57)
def mrkQ (x : Nat) : Bool := decide (x = 59 ∨ x = 40 ∨ x = 41 ∨ x = 43 ∨ x = 45 ∨ x = 42 ∨ x = 47 ∨ x = 60 ∨ x = 61)
def blkQ (x : Nat) : Bool := decide (x = 32 ∨ x = 10)
def tBeg (tp : Nat → Nat) (sz a : Nat) : Nat := scn (fun k => blkQ (tp k)) sz a
def tKd (tp : Nat → Nat) (sz b : Nat) : Nat := if sz ≤ b then 0 else if ltrQ (tp b) = true then 1 else if dgtQ (tp b) = true then 2 else if mrkQ (tp b) = true then 3 else 4
def tEnd (tp : Nat → Nat) (sz b : Nat) : Nat := if sz ≤ b then b else if ltrQ (tp b) = true then scn (fun k => ltrQ (tp k)) sz b else if dgtQ (tp b) = true then scn (fun k => dgtQ (tp k)) sz b else b + 1
def tVal (tp : Nat → Nat) (b : Nat) : Nat → Nat
  | 0 => 0
  | k + 1 => if 10 * tVal tp b k + tp (b + k) - 48 < 100000 then 10 * tVal tp b k + tp (b + k) - 48 else 100000
theorem tVal_le (tp : Nat → Nat) (b : Nat) : ∀ k, tVal tp b k ≤ 100000
  | 0 => Nat.zero_le _
  | k + 1 => by
    show (if _ then _ else _) ≤ _
    split <;> omega
def TK (I : Nat → Nat → Int32) (sz : Nat) (tp : Nat → Nat) : Prop := I 1069 19 = nI sz ∧ sz ≤ 700 ∧ ∀ k, k < sz → I 1085 k = nI (tp k) ∧ tp k < 256
/-- what stepping on changes -/
def stpF (b j : Nat) : Bool := decide (b = 1069 ∧ (j = 18 ∨ j = 20 ∨ j = 21 ∨ j = 22 ∨ j = 23))
def eqT (I J : Nat → Nat → Int32) : Prop := ∀ b j : Nat, stpF b j = false → J b j = I b j
theorem eqT_r (I : Nat → Nat → Int32) : eqT I I := fun _ _ _ => rfl
theorem eqT_t {I J K : Nat → Nat → Int32} (h1 : eqT I J) (h2 : eqT J K) : eqT I K := fun b j h => (h2 b j h).trans (h1 b j h)
theorem eqT_u {I J : Nat → Nat → Int32} {a k : Nat} {v : Int32} (h : eqT I J) (ha : stpF a k = true) : eqT I (upI J a k v) := fun b j hb => by
  by_cases e : b = a ∧ j = k
  · rw [e.1, e.2, ha] at hb; cases hb
  · have : upI J a k v b j = J b j := by simp [upI, e]
    rw [this]; exact h b j hb
theorem TK.t {I J : Nat → Nat → Int32} {sz : Nat} {tp : Nat → Nat} (h : TK I sz tp) (he : eqT I J) : TK J sz tp :=
  ⟨(he 1069 19 (by decide)).trans h.1, h.2.1, fun k hk => ⟨(he 1085 k (by unfold stpF; simp)).trans (h.2.2 k hk).1, (h.2.2 k hk).2⟩⟩
/-- the token that is read next stands, having begun at place b -/
def TS1 (J : Nat → Nat → Int32) (sz : Nat) (tp : Nat → Nat) (b : Nat) : Prop := J 1069 18 = nI (tEnd tp sz b) ∧ J 1069 20 = nI (tKd tp sz b) ∧ J 1069 22 = nI b ∧ J 1069 23 = nI (tEnd tp sz b) ∧ (tKd tp sz b = 2 → J 1069 21 = nI (tVal tp b (tEnd tp sz b - b)))
section RV
variable {w : jWD} {l : Launch} {n : Nat} {I J : Nat → Nat → Int32} {L : Nat → Nat → Int64} {R : Nat → Nat → Option Nat}

set_option maxHeartbeats 1000000 in
set_option maxRecDepth 20000 in
theorem tX11_byteAt (hW : jWok w l) (hR : RS R) {sz k : Nat} {tp : Nat → Nat} (hK : TK I sz tp) (hk : k ≤ 700)  : jCD w l mX11_byteAt 1 [.ref 1069, .int (nI k)] (n, shE, I, L, R) (some (.int (oI (if k < sz then some (tp k) else none)))) (n, shE, I, L, R) := by
  refine jCD_of hW (by decide) rfl (Nat.le_of_ble_eq_true rfl) ?_
  have hz7 := hK.2.1
  refine jx_iload_n dX11_byteAt_0 rfl ?_
  refine jx_aload_n dX11_byteAt_1 rfl ?_
  refine jx_getIE dX11_byteAt_2 flX11_201 rfl rfl (hK.1) ?_
  refine jx_icmpN_ge (a := k) (b := sz) 17 dX11_byteAt_5 (by decide) (by omega) (by omega) (fun h5 => ?_) (fun h5 => ?_)
  · refine jx_iconst (v := -1) dX11_byteAt_17 (by decide) ?_
    refine jx_iret dX11_byteAt_18 rfl ?_
    refine ⟨?_, rfl⟩
    first | (rw [if_pos h5]; rfl) | (rw [if_neg (by omega)]; rfl)
  · refine jx_aload_n dX11_byteAt_8 rfl ?_
    refine jx_getR dX11_byteAt_9 flX11_75 rfl rfl (hR _ _ _ rfl) ?_
    refine jx_iload_n dX11_byteAt_12 rfl ?_
    refine jx_ialdE (k) dX11_byteAt_13 rfl (rfl) (by omega) (by omega) ((hK.2.2 k h5).1) ?_
    refine jx_goto 18 dX11_byteAt_14 (by decide) ?_
    refine jx_iret dX11_byteAt_18 rfl ?_
    refine ⟨?_, rfl⟩
    first | (rw [if_pos h5]; rfl) | (rw [if_neg (by omega)]; rfl)
set_option maxHeartbeats 1000000 in
set_option maxRecDepth 20000 in
theorem tX11_isLetter (hW : jWok w l) {x : Nat} (hx : x < 256) (σ : jHS) : jCD w l mX11_isLetter 1 [.int (nI x)] σ (some (.int (jb (ltrQ x)))) σ := by
  refine jCD_of hW (by decide) rfl (Nat.le_of_ble_eq_true rfl) ?_
  refine jx_iload_n dX11_isLetter_0 rfl ?_
  refine jx_bipush (v := 97) dX11_isLetter_1 (by decide) ?_
  refine jx_icmpN_lt (a := x) (b := 97) 16 dX11_isLetter_3 (by decide) (by omega) (by omega) (fun h3 => ?_) (fun h3 => ?_)
  · refine jx_iconst (v := 0) dX11_isLetter_16 (by decide) ?_
    refine jx_zret dX11_isLetter_17 rfl ?_ ?_
    · first | exact Or.inl rfl | exact Or.inr rfl | exact jb_or _
    refine ⟨?_, rfl⟩
    rw [show ltrQ x = false from decide_eq_false (by omega)]; rfl
  · refine jx_iload_n dX11_isLetter_6 rfl ?_
    refine jx_bipush (v := 122) dX11_isLetter_7 (by decide) ?_
    refine jx_icmpN_gt (a := x) (b := 122) 16 dX11_isLetter_9 (by decide) (by omega) (by omega) (fun h9 => ?_) (fun h9 => ?_)
    · refine jx_iconst (v := 0) dX11_isLetter_16 (by decide) ?_
      refine jx_zret dX11_isLetter_17 rfl ?_ ?_
      · first | exact Or.inl rfl | exact Or.inr rfl | exact jb_or _
      refine ⟨?_, rfl⟩
      rw [show ltrQ x = false from decide_eq_false (by omega)]; rfl
    · refine jx_iconst (v := 1) dX11_isLetter_12 (by decide) ?_
      refine jx_goto 17 dX11_isLetter_13 (by decide) ?_
      refine jx_zret dX11_isLetter_17 rfl ?_ ?_
      · first | exact Or.inl rfl | exact Or.inr rfl | exact jb_or _
      refine ⟨?_, rfl⟩
      rw [show ltrQ x = true from decide_eq_true (by omega)]; rfl
theorem tX11_isLetter0 (hW : jWok w l) (σ : jHS) : jCD w l mX11_isLetter 1 [.int (-1)] σ (some (.int (jb false))) σ := by
  refine jCD_of hW (by decide) rfl (Nat.le_of_ble_eq_true rfl) ?_
  refine jx_iload_n dX11_isLetter_0 rfl ?_
  refine jx_bipush (v := 97) dX11_isLetter_1 (by decide) ?_
  refine jx_icmp_lt 16 dX11_isLetter_3 (by decide) (fun h3 => ?_) (fun h3 => ?_)
  · refine jx_iconst (v := 0) dX11_isLetter_16 (by decide) ?_
    refine jx_zret dX11_isLetter_17 rfl ?_ ?_
    · first | exact Or.inl rfl | exact Or.inr rfl | exact jb_or _
    exact ⟨rfl, rfl⟩
  · exact absurd (by decide) h3
set_option maxHeartbeats 1000000 in
set_option maxRecDepth 20000 in
theorem tX11_isDigit (hW : jWok w l) {x : Nat} (hx : x < 256) (σ : jHS) : jCD w l mX11_isDigit 1 [.int (nI x)] σ (some (.int (jb (dgtQ x)))) σ := by
  refine jCD_of hW (by decide) rfl (Nat.le_of_ble_eq_true rfl) ?_
  refine jx_iload_n dX11_isDigit_0 rfl ?_
  refine jx_bipush (v := 48) dX11_isDigit_1 (by decide) ?_
  refine jx_icmpN_lt (a := x) (b := 48) 16 dX11_isDigit_3 (by decide) (by omega) (by omega) (fun h3 => ?_) (fun h3 => ?_)
  · refine jx_iconst (v := 0) dX11_isDigit_16 (by decide) ?_
    refine jx_zret dX11_isDigit_17 rfl ?_ ?_
    · first | exact Or.inl rfl | exact Or.inr rfl | exact jb_or _
    refine ⟨?_, rfl⟩
    rw [show dgtQ x = false from decide_eq_false (by omega)]; rfl
  · refine jx_iload_n dX11_isDigit_6 rfl ?_
    refine jx_bipush (v := 57) dX11_isDigit_7 (by decide) ?_
    refine jx_icmpN_gt (a := x) (b := 57) 16 dX11_isDigit_9 (by decide) (by omega) (by omega) (fun h9 => ?_) (fun h9 => ?_)
    · refine jx_iconst (v := 0) dX11_isDigit_16 (by decide) ?_
      refine jx_zret dX11_isDigit_17 rfl ?_ ?_
      · first | exact Or.inl rfl | exact Or.inr rfl | exact jb_or _
      refine ⟨?_, rfl⟩
      rw [show dgtQ x = false from decide_eq_false (by omega)]; rfl
    · refine jx_iconst (v := 1) dX11_isDigit_12 (by decide) ?_
      refine jx_goto 17 dX11_isDigit_13 (by decide) ?_
      refine jx_zret dX11_isDigit_17 rfl ?_ ?_
      · first | exact Or.inl rfl | exact Or.inr rfl | exact jb_or _
      refine ⟨?_, rfl⟩
      rw [show dgtQ x = true from decide_eq_true (by omega)]; rfl
theorem tX11_isDigit0 (hW : jWok w l) (σ : jHS) : jCD w l mX11_isDigit 1 [.int (-1)] σ (some (.int (jb false))) σ := by
  refine jCD_of hW (by decide) rfl (Nat.le_of_ble_eq_true rfl) ?_
  refine jx_iload_n dX11_isDigit_0 rfl ?_
  refine jx_bipush (v := 48) dX11_isDigit_1 (by decide) ?_
  refine jx_icmp_lt 16 dX11_isDigit_3 (by decide) (fun h3 => ?_) (fun h3 => ?_)
  · refine jx_iconst (v := 0) dX11_isDigit_16 (by decide) ?_
    refine jx_zret dX11_isDigit_17 rfl ?_ ?_
    · first | exact Or.inl rfl | exact Or.inr rfl | exact jb_or _
    exact ⟨rfl, rfl⟩
  · exact absurd (by decide) h3
set_option maxHeartbeats 1000000 in
set_option maxRecDepth 20000 in
theorem tX11_isMark (hW : jWok w l) {x : Nat} (hx : x < 256) (σ : jHS) : jCD w l mX11_isMark 1 [.int (nI x)] σ (some (.int (jb (mrkQ x)))) σ := by
  refine jCD_of hW (by decide) rfl (Nat.le_of_ble_eq_true rfl) ?_
  refine jx_iload_n dX11_isMark_0 rfl ?_
  refine jx_bipush (v := 59) dX11_isMark_1 (by decide) ?_
  refine jx_icmpN_eq (a := x) (b := 59) 54 dX11_isMark_3 (by decide) (by omega) (by omega) (fun h3 => ?_) (fun h3 => ?_)
  · refine jx_iconst (v := 1) dX11_isMark_54 (by decide) ?_
    refine jx_goto 59 dX11_isMark_55 (by decide) ?_
    refine jx_zret dX11_isMark_59 rfl ?_ ?_
    · first | exact Or.inl rfl | exact Or.inr rfl | exact jb_or _
    refine ⟨?_, rfl⟩
    rw [show mrkQ x = true from decide_eq_true (by omega)]; rfl
  · refine jx_iload_n dX11_isMark_6 rfl ?_
    refine jx_bipush (v := 40) dX11_isMark_7 (by decide) ?_
    refine jx_icmpN_eq (a := x) (b := 40) 54 dX11_isMark_9 (by decide) (by omega) (by omega) (fun h9 => ?_) (fun h9 => ?_)
    · refine jx_iconst (v := 1) dX11_isMark_54 (by decide) ?_
      refine jx_goto 59 dX11_isMark_55 (by decide) ?_
      refine jx_zret dX11_isMark_59 rfl ?_ ?_
      · first | exact Or.inl rfl | exact Or.inr rfl | exact jb_or _
      refine ⟨?_, rfl⟩
      rw [show mrkQ x = true from decide_eq_true (by omega)]; rfl
    · refine jx_iload_n dX11_isMark_12 rfl ?_
      refine jx_bipush (v := 41) dX11_isMark_13 (by decide) ?_
      refine jx_icmpN_eq (a := x) (b := 41) 54 dX11_isMark_15 (by decide) (by omega) (by omega) (fun h15 => ?_) (fun h15 => ?_)
      · refine jx_iconst (v := 1) dX11_isMark_54 (by decide) ?_
        refine jx_goto 59 dX11_isMark_55 (by decide) ?_
        refine jx_zret dX11_isMark_59 rfl ?_ ?_
        · first | exact Or.inl rfl | exact Or.inr rfl | exact jb_or _
        refine ⟨?_, rfl⟩
        rw [show mrkQ x = true from decide_eq_true (by omega)]; rfl
      · refine jx_iload_n dX11_isMark_18 rfl ?_
        refine jx_bipush (v := 43) dX11_isMark_19 (by decide) ?_
        refine jx_icmpN_eq (a := x) (b := 43) 54 dX11_isMark_21 (by decide) (by omega) (by omega) (fun h21 => ?_) (fun h21 => ?_)
        · refine jx_iconst (v := 1) dX11_isMark_54 (by decide) ?_
          refine jx_goto 59 dX11_isMark_55 (by decide) ?_
          refine jx_zret dX11_isMark_59 rfl ?_ ?_
          · first | exact Or.inl rfl | exact Or.inr rfl | exact jb_or _
          refine ⟨?_, rfl⟩
          rw [show mrkQ x = true from decide_eq_true (by omega)]; rfl
        · refine jx_iload_n dX11_isMark_24 rfl ?_
          refine jx_bipush (v := 45) dX11_isMark_25 (by decide) ?_
          refine jx_icmpN_eq (a := x) (b := 45) 54 dX11_isMark_27 (by decide) (by omega) (by omega) (fun h27 => ?_) (fun h27 => ?_)
          · refine jx_iconst (v := 1) dX11_isMark_54 (by decide) ?_
            refine jx_goto 59 dX11_isMark_55 (by decide) ?_
            refine jx_zret dX11_isMark_59 rfl ?_ ?_
            · first | exact Or.inl rfl | exact Or.inr rfl | exact jb_or _
            refine ⟨?_, rfl⟩
            rw [show mrkQ x = true from decide_eq_true (by omega)]; rfl
          · refine jx_iload_n dX11_isMark_30 rfl ?_
            refine jx_bipush (v := 42) dX11_isMark_31 (by decide) ?_
            refine jx_icmpN_eq (a := x) (b := 42) 54 dX11_isMark_33 (by decide) (by omega) (by omega) (fun h33 => ?_) (fun h33 => ?_)
            · refine jx_iconst (v := 1) dX11_isMark_54 (by decide) ?_
              refine jx_goto 59 dX11_isMark_55 (by decide) ?_
              refine jx_zret dX11_isMark_59 rfl ?_ ?_
              · first | exact Or.inl rfl | exact Or.inr rfl | exact jb_or _
              refine ⟨?_, rfl⟩
              rw [show mrkQ x = true from decide_eq_true (by omega)]; rfl
            · refine jx_iload_n dX11_isMark_36 rfl ?_
              refine jx_bipush (v := 47) dX11_isMark_37 (by decide) ?_
              refine jx_icmpN_eq (a := x) (b := 47) 54 dX11_isMark_39 (by decide) (by omega) (by omega) (fun h39 => ?_) (fun h39 => ?_)
              · refine jx_iconst (v := 1) dX11_isMark_54 (by decide) ?_
                refine jx_goto 59 dX11_isMark_55 (by decide) ?_
                refine jx_zret dX11_isMark_59 rfl ?_ ?_
                · first | exact Or.inl rfl | exact Or.inr rfl | exact jb_or _
                refine ⟨?_, rfl⟩
                rw [show mrkQ x = true from decide_eq_true (by omega)]; rfl
              · refine jx_iload_n dX11_isMark_42 rfl ?_
                refine jx_bipush (v := 60) dX11_isMark_43 (by decide) ?_
                refine jx_icmpN_eq (a := x) (b := 60) 54 dX11_isMark_45 (by decide) (by omega) (by omega) (fun h45 => ?_) (fun h45 => ?_)
                · refine jx_iconst (v := 1) dX11_isMark_54 (by decide) ?_
                  refine jx_goto 59 dX11_isMark_55 (by decide) ?_
                  refine jx_zret dX11_isMark_59 rfl ?_ ?_
                  · first | exact Or.inl rfl | exact Or.inr rfl | exact jb_or _
                  refine ⟨?_, rfl⟩
                  rw [show mrkQ x = true from decide_eq_true (by omega)]; rfl
                · refine jx_iload_n dX11_isMark_48 rfl ?_
                  refine jx_bipush (v := 61) dX11_isMark_49 (by decide) ?_
                  refine jx_icmpN_ne (a := x) (b := 61) 58 dX11_isMark_51 (by decide) (by omega) (by omega) (fun h51 => ?_) (fun h51 => ?_)
                  · refine jx_iconst (v := 0) dX11_isMark_58 (by decide) ?_
                    refine jx_zret dX11_isMark_59 rfl ?_ ?_
                    · first | exact Or.inl rfl | exact Or.inr rfl | exact jb_or _
                    refine ⟨?_, rfl⟩
                    rw [show mrkQ x = false from decide_eq_false (by omega)]; rfl
                  · refine jx_iconst (v := 1) dX11_isMark_54 (by decide) ?_
                    refine jx_goto 59 dX11_isMark_55 (by decide) ?_
                    refine jx_zret dX11_isMark_59 rfl ?_ ?_
                    · first | exact Or.inl rfl | exact Or.inr rfl | exact jb_or _
                    refine ⟨?_, rfl⟩
                    rw [show mrkQ x = true from decide_eq_true (by omega)]; rfl
set_option maxHeartbeats 1000000 in
set_option maxRecDepth 20000 in
theorem tX11_wrong (hW : jWok w l) {b : Nat} (hb : I 1069 24 = nI b) (hb5 : b ≤ 5) (k : Int32) : jCD w l mX11_wrong 1 [.ref 1069, .int k] (n, shE, I, L, R) none (n, shE, if b = 0 then upI (upI I 1069 24 k) 1069 25 (I 1069 22) else I, L, R) := by
  refine jCD_of hW (by decide) rfl (Nat.le_of_ble_eq_true rfl) ?_
  refine jx_aload_n dX11_wrong_0 rfl ?_
  refine jx_getIE dX11_wrong_1 flX11_240 rfl rfl (hb) ?_
  refine jx_ifN_eq (a := b) 8 dX11_wrong_4 (by decide) (by omega) (fun h4 => ?_) (fun h4 => ?_)
  · refine jx_aload_n dX11_wrong_8 rfl ?_
    refine jx_iload_n dX11_wrong_9 rfl ?_
    refine jx_putI dX11_wrong_10 flX11_240 rfl rfl (fun r h => by cases h; rfl) ?_
    refine jx_aload_n dX11_wrong_13 rfl ?_
    refine jx_aload_n dX11_wrong_14 rfl ?_
    refine jx_getI dX11_wrong_15 flX11_211 rfl rfl ?_
    refine jx_putI dX11_wrong_18 flX11_243 rfl rfl (fun r h => by cases h; rfl) ?_
    refine jx_vret dX11_wrong_21 rfl ?_
    rw [if_pos h4]
    exact ⟨rfl, rfl⟩
  · refine jx_vret dX11_wrong_7 rfl ?_
    rw [if_neg h4]
    exact ⟨rfl, rfl⟩
end RV
