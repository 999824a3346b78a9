/-! the lines of a text: what they tell, T = the island that is told (the upper halves of the reference's rows), x = (place, fault, place of the fault) -/
def offU (a : Nat) : Nat := if a = 1072 then 17 else if a = 1073 ∨ a = 1074 then 63 else if a = 1075 then 12 else if 1076 ≤ a ∧ a ≤ 1081 then 6 else if a = 1082 then 700 else 0
def tlR (a j : Nat) : Bool := decide (a = 1072 ∧ j < 17 ∨ (a = 1073 ∨ a = 1074 ∨ a = 1084) ∧ j < 63 ∨ a = 1075 ∧ j < 12 ∨ (1076 ≤ a ∧ a ≤ 1081) ∧ j < 6)
def tldF (b j : Nat) : Bool := decide (b = 1072 ∧ 17 ≤ j ∨ (b = 1073 ∨ b = 1074) ∧ 63 ≤ j ∨ b = 1075 ∧ 12 ≤ j ∨ (1076 ≤ b ∧ b ≤ 1081) ∧ 6 ≤ j ∨ b = 1084)
def TL (J T : Nat → Nat → Int32) : Prop := ∀ a j : Nat, tlR a j = true → J a (offU a + j) = T a j
def eqL (I J : Nat → Nat → Int32) : Prop := ∀ b j : Nat, prsF b j = false → tldF b j = false → J b j = I b j
theorem eqL_r (I : Nat → Nat → Int32) : eqL I I := fun _ _ _ _ => rfl
theorem eqL_t {I J K : Nat → Nat → Int32} (h1 : eqL I J) (h2 : eqL J K) : eqL I K := fun b j h p => (h2 b j h p).trans (h1 b j h p)
theorem eqN_L {I J : Nat → Nat → Int32} (h : eqN I J) : eqL I J := fun b j p _ => h b j p
def eqM (I J : Nat → Nat → Int32) : Prop := ∀ b j : Nat, prsF b j = false → tldF b j = false → ¬ (b = 1082 ∧ 700 ≤ j) → J b j = I b j
theorem eqL_M {I J : Nat → Nat → Int32} (h : eqL I J) : eqM I J := fun b j p q _ => h b j p q
theorem eqM_t {I J K : Nat → Nat → Int32} (h1 : eqM I J) (h2 : eqM J K) : eqM I K := fun b j h p q => (h2 b j h p q).trans (h1 b j h p q)
theorem eqE_M {I J : Nat → Nat → Int32} (h : eqE I J) : eqM I J := fun b j p q r => h b j p (fun z => by rw [z.1, z.2] at q; exact absurd q (by decide)) r
theorem eqL_u {I J : Nat → Nat → Int32} {a k : Nat} {v : Int32} (h : eqL I J) (ha : tldF a k = true) : eqL I (upI J a k v) := fun b j hb hl => by
  by_cases e : b = a ∧ j = k
  · rw [e.1, e.2, ha] at hl; cases hl
  · rw [upI_ne e]; exact h b j hb hl
theorem prsF_9 {b j : Nat} (h : b ≠ 1069) : prsF b j = false := by
  unfold prsF stpF
  simp [h]
theorem tlR_9 {a j : Nat} (h : tlR a j = true) : a ≠ 1069 ∧ a ≠ 1085 := by
  unfold tlR at h
  have := of_decide_eq_true h
  omega
theorem TL_n {I J T : Nat → Nat → Int32} (h : TL I T) (he : eqN I J) : TL J T := fun a j hj => (he a _ (prsF_9 (tlR_9 hj).1)).trans (h a j hj)
theorem TL_u {I T : Nat → Nat → Int32} (h : TL I T) (a j : Nat) (v : Int32) : TL (upI I a (offU a + j) v) (upI T a j v) := fun b k hk => by
  by_cases e : b = a ∧ k = j
  · rw [e.1, e.2, upI_s, upI_s]
  · rw [upI_ne e]
    by_cases e1 : b = a
    · subst e1
      rw [upI_j (fun q => e ⟨rfl, by omega⟩)]
      exact h b k hk
    · rw [upI_nea e1]
      exact h b k hk
theorem P3_u {I : Nat → Nat → Int32} {sz : Nat} {tp : Nat → Nat} {x : Nat × Nat × Nat} {a k : Nat} {v : Int32} (h : P3 I sz tp x) (h1 : a ≠ 1069) (h2 : a ≠ 1085) : P3 (upI I a k v) sz tp x :=
  P3_out h (fun _ => upI_nea (Ne.symm h1)) (fun _ => upI_nea (Ne.symm h2))
/-- a number that is not yet gone over -/
def pNw (tp : Nat → Nat) (sz lo hi : Nat) (x : Nat × Nat × Nat) : Nat × Nat × Nat := if x.2.1 = 0 then (if numC tp sz x.1 lo hi = 0 then x else (x.1, numC tp sz x.1 lo hi, x.1)) else x
def pCl (tp : Nat → Nat) (sz W H : Nat) (x : Nat × Nat × Nat) : Nat × Nat × Nat := pNw tp sz 0 (H - 1) (pNu tp sz 0 (W - 1) x)
def vCl (tp : Nat → Nat) (sz W H : Nat) (x : Nat × Nat × Nat) : Nat := W * vNu tp sz 0 (H - 1) (pNu tp sz 0 (W - 1) x) + vNu tp sz 0 (W - 1) x
theorem vNu_le {tp : Nat → Nat} {sz lo hi : Nat} {x : Nat × Nat × Nat} : vNu tp sz lo hi x ≤ hi := by
  unfold vNu
  split
  · rename_i h
    have h2 := h.2
    unfold numC at h2
    split at h2
    · cases h2
    · split at h2
      · cases h2
      · unfold numV
        omega
  · exact Nat.zero_le _
theorem vNu_lo {tp : Nat → Nat} {sz lo hi : Nat} {x : Nat × Nat × Nat} (h : (pNu tp sz lo hi x).2.1 = 0) : lo ≤ vNu tp sz lo hi x := by
  unfold pNu at h
  by_cases e : x.2.1 = 0
  · rw [if_pos e] at h
    by_cases z : numC tp sz x.1 lo hi = 0
    · unfold vNu
      rw [if_pos ⟨e, z⟩]
      unfold numC at z
      split at z
      · cases z
      · split at z
        · cases z
        · unfold numV
          omega
    · rw [if_neg z] at h
      exact absurd h z
  · rw [if_neg e] at h
    exact absurd h e
theorem vCl_lt {tp : Nat → Nat} {sz W H : Nat} {x : Nat × Nat × Nat} (hW : 1 ≤ W) (hH : 1 ≤ H) : vCl tp sz W H x < W * H := by
  unfold vCl
  have h1 : vNu tp sz 0 (W - 1) x ≤ W - 1 := vNu_le
  have h2 : vNu tp sz 0 (H - 1) (pNu tp sz 0 (W - 1) x) ≤ H - 1 := vNu_le
  calc W * vNu tp sz 0 (H - 1) (pNu tp sz 0 (W - 1) x) + vNu tp sz 0 (W - 1) x < W * vNu tp sz 0 (H - 1) (pNu tp sz 0 (W - 1) x) + W := by omega
    _ = W * (vNu tp sz 0 (H - 1) (pNu tp sz 0 (W - 1) x) + 1) := by rw [Nat.mul_add, Nat.mul_one]
    _ ≤ W * H := Nat.mul_le_mul_left _ (by omega)
def liHt (tp : Nat → Nat) (sz : Nat) (x : Nat × Nat × Nat) (T : Nat → Nat → Int32) : (Nat × Nat × Nat) × (Nat → Nat → Int32) :=
  if (pCl tp sz (cN (T 1072 0)) (cN (T 1072 1)) (stX tp sz x)).2.1 ≠ 0 then (pCl tp sz (cN (T 1072 0)) (cN (T 1072 1)) (stX tp sz x), T)
  else if T 1084 (vCl tp sz (cN (T 1072 0)) (cN (T 1072 1)) (stX tp sz x)) ≠ 0 then (pWr 4 (pCl tp sz (cN (T 1072 0)) (cN (T 1072 1)) (stX tp sz x)), T)
  else (pNu tp sz 0 9 (stX tp sz (pCl tp sz (cN (T 1072 0)) (cN (T 1072 1)) (stX tp sz x))), upI (upI T 1084 (vCl tp sz (cN (T 1072 0)) (cN (T 1072 1)) (stX tp sz x)) 1) 1073 (vCl tp sz (cN (T 1072 0)) (cN (T 1072 1)) (stX tp sz x)) (nI (vNu tp sz 0 9 (stX tp sz (pCl tp sz (cN (T 1072 0)) (cN (T 1072 1)) (stX tp sz x))))))
def tkn (T : Nat → Nat → Int32) (k c : Nat) : Bool := if k = 4 then anyN (fun q => decide (T 1075 q = nI c)) (cN (T 1072 4)) else decide (T 1074 c ≠ 0 ∨ c % cN (T 1072 0) = 0 ∨ c % cN (T 1072 0) = cN (T 1072 0) - 1)
def liThg (tp : Nat → Nat) (sz k : Nat) (x : Nat × Nat × Nat) (T : Nat → Nat → Int32) : (Nat × Nat × Nat) × (Nat → Nat → Int32) :=
  if cN (T 1072 k) = 12 then (pWr 2 x, T) else if (pCl tp sz (cN (T 1072 0)) (cN (T 1072 1)) (stX tp sz x)).2.1 ≠ 0 then (pCl tp sz (cN (T 1072 0)) (cN (T 1072 1)) (stX tp sz x), T)
  else if tkn T k (vCl tp sz (cN (T 1072 0)) (cN (T 1072 1)) (stX tp sz x)) = true then (pWr 4 (pCl tp sz (cN (T 1072 0)) (cN (T 1072 1)) (stX tp sz x)), T)
  else (stX tp sz (pCl tp sz (cN (T 1072 0)) (cN (T 1072 1)) (stX tp sz x)), upI (if k = 4 then upI T 1075 (cN (T 1072 4)) (nI (vCl tp sz (cN (T 1072 0)) (cN (T 1072 1)) (stX tp sz x))) else upI T 1074 (vCl tp sz (cN (T 1072 0)) (cN (T 1072 1)) (stX tp sz x)) (nI (k - 1))) 1072 k (nI (cN (T 1072 k) + 1)))
def liPty (tp : Nat → Nat) (sz k : Nat) (x : Nat × Nat × Nat) (T : Nat → Nat → Int32) : (Nat × Nat × Nat) × (Nat → Nat → Int32) :=
  if cN (T 1072 10) = 6 then (pWr 2 x, T) else
  (pNu tp sz 0 20 (pNu tp sz 0 (cN (T 1072 1) - 1) (pNu tp sz 0 9 (pNu tp sz 1 4 (stX tp sz x)))),
   upI (upI (upI (upI (upI (upI (upI T 1076 (cN (T 1072 10)) (nI k)) 1077 (cN (T 1072 10)) (nI (vNu tp sz 1 4 (stX tp sz x)))) 1078 (cN (T 1072 10)) (nI (vNu tp sz 0 9 (pNu tp sz 1 4 (stX tp sz x))))) 1079 (cN (T 1072 10)) (nI (vNu tp sz 0 (cN (T 1072 1) - 1) (pNu tp sz 0 9 (pNu tp sz 1 4 (stX tp sz x)))))) 1080 (cN (T 1072 10)) (nI (vNu tp sz 0 20 (pNu tp sz 0 (cN (T 1072 1) - 1) (pNu tp sz 0 9 (pNu tp sz 1 4 (stX tp sz x))))))) 1081 (cN (T 1072 10)) 0) 1072 10 (nI (cN (T 1072 10) + 1)))
def pPt (tp : Nat → Nat) (sz np : Nat) (x : Nat × Nat × Nat) : Nat × Nat × Nat := if (pNw tp sz 0 9999 x).2.1 = 0 ∧ np ≤ vNu tp sz 0 9999 x then pWr 3 (pNw tp sz 0 9999 x) else pNw tp sz 0 9999 x
def vPt (tp : Nat → Nat) (sz np : Nat) (x : Nat × Nat × Nat) : Nat := if (pPt tp sz np x).2.1 = 0 then vNu tp sz 0 9999 x else 0
def stG (tp : Nat → Nat) (sz : Nat) (x : Nat × Nat × Nat) : Nat × Nat × Nat := if x.2.1 = 0 then stX tp sz x else x
def qrH (T : Nat → Nat → Int32) (a b : Nat) : Nat → Nat → Int32 := upI (upI (upI T 1081 a (T 1081 a ||| (1 <<< (nI b &&& 31)))) 1081 b (upI T 1081 a (T 1081 a ||| (1 <<< (nI b &&& 31))) 1081 b ||| (1 <<< (nI a &&& 31)))) 1072 11 (nI (cN (T 1072 11) + 1))
def liQrl (tp : Nat → Nat) (sz : Nat) (x : Nat × Nat × Nat) (T : Nat → Nat → Int32) : (Nat × Nat × Nat) × (Nat → Nat → Int32) :=
  if cN (T 1072 11) = 6 then (pWr 2 x, T) else
  if (pPt tp sz (cN (T 1072 10)) (stG tp sz (pPt tp sz (cN (T 1072 10)) (stX tp sz x)))).2.1 ≠ 0 then (pPt tp sz (cN (T 1072 10)) (stG tp sz (pPt tp sz (cN (T 1072 10)) (stX tp sz x))), T) else
  if vPt tp sz (cN (T 1072 10)) (stX tp sz x) = vPt tp sz (cN (T 1072 10)) (stG tp sz (pPt tp sz (cN (T 1072 10)) (stX tp sz x))) ∨ (T 1081 (vPt tp sz (cN (T 1072 10)) (stX tp sz x)) >>> (nI (vPt tp sz (cN (T 1072 10)) (stG tp sz (pPt tp sz (cN (T 1072 10)) (stX tp sz x)))) &&& 31)) &&& 1 = 1
  then (pWr 4 (pPt tp sz (cN (T 1072 10)) (stG tp sz (pPt tp sz (cN (T 1072 10)) (stX tp sz x)))), T)
  else (stX tp sz (pPt tp sz (cN (T 1072 10)) (stG tp sz (pPt tp sz (cN (T 1072 10)) (stX tp sz x)))), qrH T (vPt tp sz (cN (T 1072 10)) (stX tp sz x)) (vPt tp sz (cN (T 1072 10)) (stG tp sz (pPt tp sz (cN (T 1072 10)) (stX tp sz x)))))
def fgL (tp : Nat → Nat) (sz : Nat) : Nat → Nat → Nat × Nat × Nat → (Nat → Nat → Int32) → (Nat × Nat × Nat) × (Nat → Nat → Int32)
  | 0, _, x, T => (x, T)
  | r + 1, all, x, T => if (pNw tp sz 0 9 x).2.1 ≠ 0 then (pNw tp sz 0 9 x, T) else if r = 0 ∧ all + vNu tp sz 0 9 x = 0 then (pWr 2 (pNw tp sz 0 9 x), T)
    else fgL tp sz r (all + vNu tp sz 0 9 x) (stX tp sz (pNw tp sz 0 9 x)) (upI T 1072 (12 + (3 - r)) (nI (vNu tp sz 0 9 x)))
theorem P3_nw {I : Nat → Nat → Int32} {sz : Nat} {tp : Nat → Nat} {b bd bp lo hi : Nat} (h : P3 I sz tp (b, bd, bp)) : P3 (if numC tp sz b lo hi = 0 then I else wrg I bd (numC tp sz b lo hi)) sz tp (pNw tp sz lo hi (b, bd, bp)) ∧ eqN I (if numC tp sz b lo hi = 0 then I else wrg I bd (numC tp sz b lo hi)) ∧ (if bd = 0 ∧ numC tp sz b lo hi = 0 then nI (numV tp sz b) else 0) = nI (vNu tp sz lo hi (b, bd, bp)) := by
  have hn : numC tp sz b lo hi ≤ 2 := by unfold numC; split <;> (try split) <;> omega
  refine ⟨?_, ?_, ?_⟩
  · unfold pNw
    by_cases z : numC tp sz b lo hi = 0
    · rw [if_pos z]
      by_cases e : bd = 0
      · rw [show (if (b, bd, bp).2.1 = 0 then (if numC tp sz (b, bd, bp).1 lo hi = 0 then (b, bd, bp) else ((b, bd, bp).1, numC tp sz (b, bd, bp).1 lo hi, (b, bd, bp).1)) else (b, bd, bp)) = (b, bd, bp) from by rw [if_pos e, if_pos z]]
        exact h
      · rw [if_neg e]; exact h
    · rw [if_neg z]
      have hw := P3_wr h (k := numC tp sz b lo hi) (by omega) z
      unfold pWr at hw
      by_cases e : bd = 0
      · rw [if_pos e] at hw ⊢
        rw [if_neg z]
        exact hw
      · rw [if_neg e] at hw ⊢
        exact hw
  · split
    · exact eqN_r _
    · exact wrg_n _ _
  · unfold vNu
    split <;> rfl
/-- the told island, its rule too -/
def TLS (J T : Nat → Nat → Int32) : Prop := TL J T ∧ ∀ j, j < cN (T 1072 16) → J 1082 (700 + j) = T 1082 j
def sameR (T T' : Nat → Nat → Int32) : Prop := T' 1072 16 = T 1072 16 ∧ ∀ j, T' 1082 j = T 1082 j
theorem TLS_s {I J T T' : Nat → Nat → Int32} (h : TLS I T) (he : eqL I J) (hs : sameR T T') (hT : TL J T') : TLS J T' := ⟨hT, fun j hj => by
  rw [hs.1] at hj
  rw [he 1082 (700 + j) (prsF_9 (by decide)) (decide_eq_false (by omega)), hs.2 j]
  exact h.2 j hj⟩
theorem sameR_u {T : Nat → Nat → Int32} {T' : Nat → Nat → Int32} (h : sameR T T') {a k : Nat} {v : Int32} (h1 : a ≠ 1082) (h2 : ¬ (a = 1072 ∧ k = 16)) : sameR T (upI T' a k v) := ⟨(upI_ne (fun q => h2 ⟨q.1.symm, q.2.symm⟩)).trans h.1, fun j => (upI_nea (Ne.symm h1)).trans (h.2 j)⟩
theorem sameR_r (T : Nat → Nat → Int32) : sameR T T := ⟨rfl, fun _ => rfl⟩
def wMov : List Nat := [109, 111, 118, 101, 115]
def wEbb : List Nat := [101, 98, 98]
def wWai : List Nat := [119, 97, 105, 116]
def wFog : List Nat := [102, 111, 103]
def wWat : List Nat := [119, 97, 116, 101, 114]
def wHei : List Nat := [104, 101, 105, 103, 104, 116]
def wQua : List Nat := [113, 117, 97, 114, 114, 101, 108]
def wRoc : List Nat := [114, 111, 99, 107]
def wLad : List Nat := [108, 97, 100, 100, 101, 114]
def wQui : List Nat := [113, 117, 105, 99, 107]
def wSan : List Nat := [115, 97, 110, 100, 115]
def kLn (tp : Nat → Nat) (sz : Nat) (x : Nat × Nat × Nat) : Nat := if isX tp sz x wMov = true then 1 else if isX tp sz x (wVal 3) = true then 2 else if isX tp sz x wEbb = true then 4 else if isX tp sz x wWai = true then 8 else if isX tp sz x wFog = true then 16 else if isX tp sz x wWat = true then 32 else 0
def rlT (T : Nat → Nat → Int32) (acc : List Int32) : Nat → Nat → Int32 := fun a j => if a = 1082 ∧ j < acc.length then acc.getD j 0 else if a = 1072 ∧ j = 16 then nI acc.length else T a j
def liOne (tp : Nat → Nat) (sz k : Nat) (x : Nat × Nat × Nat) (T : Nat → Nat → Int32) : (Nat × Nat × Nat) × (Nat → Nat → Int32) :=
  if k = 1 then (pNu tp sz 0 2 (pSg1 tp sz (pNu tp sz 0 2 (pSg1 tp sz (stX tp sz x)))), upI (upI T 1072 5 (vSg tp sz 2 (stX tp sz x))) 1072 6 (vSg tp sz 2 (pNu tp sz 0 2 (pSg1 tp sz (stX tp sz x)))))
  else if k = 2 then (pNu tp sz 0 9 (stX tp sz x), upI T 1072 7 (nI (vNu tp sz 0 9 (stX tp sz x))))
  else if k = 4 then (pNu tp sz 1 6 (stX tp sz x), upI T 1072 8 (nI (vNu tp sz 1 6 (stX tp sz x))))
  else if k = 8 then (pNu tp sz 0 20 (stX tp sz x), upI T 1072 9 (nI (vNu tp sz 0 20 (stX tp sz x))))
  else if k = 16 then fgL tp sz 4 0 (stX tp sz x) T
  else ((exprE tp sz 6 (stX tp sz x, [])).1, rlT T (exprE tp sz 6 (stX tp sz x, [])).2)
def liOth (tp : Nat → Nat) (sz : Nat) (x : Nat × Nat × Nat) (T : Nat → Nat → Int32) : (Nat × Nat × Nat) × (Nat → Nat → Int32) :=
  match fnd (fun k => isW tp sz x.1 x.2.1 (wKnd k)) 4 with
  | some k => liPty tp sz k x T
  | none => if isX tp sz x wHei = true then liHt tp sz x T else if isX tp sz x wQua = true then liQrl tp sz x T else if isX tp sz x wRoc = true then liThg tp sz 2 x T else if isX tp sz x wLad = true then liThg tp sz 3 x T else if isX tp sz x wQui = true then liThg tp sz 4 x T else (pWr 1 x, T)
def liBody (tp : Nat → Nat) (sz seen : Nat) (x : Nat × Nat × Nat) (T : Nat → Nat → Int32) : (Nat × Nat × Nat) × (Nat → Nat → Int32) :=
  if 0 < kLn tp sz x then (if seen &&& kLn tp sz x = 0 then liOne tp sz (kLn tp sz x) x T else (pWr 5 x, T)) else liOth tp sz x T
theorem pNu_b {tp : Nat → Nat} {sz lo hi : Nat} {x : Nat × Nat × Nat} (h : x.2.1 ≠ 0) : pNu tp sz lo hi x = x := by unfold pNu; rw [if_neg h]
theorem pNw_b {tp : Nat → Nat} {sz lo hi : Nat} {x : Nat × Nat × Nat} (h : x.2.1 ≠ 0) : pNw tp sz lo hi x = x := by unfold pNw; rw [if_neg h]
theorem pSg1_b {tp : Nat → Nat} {sz : Nat} {x : Nat × Nat × Nat} (h : x.2.1 ≠ 0) : pSg1 tp sz x = x := by unfold pSg1 mkQ; rw [decide_eq_false h]; rfl
theorem fgL_b {tp : Nat → Nat} {sz r all : Nat} {x : Nat × Nat × Nat} {T : Nat → Nat → Int32} (h : x.2.1 ≠ 0) : fgL tp sz r all x T = (x, T) := by
  cases r with
  | zero => rfl
  | succ r => rw [fgL, pNw_b h, if_pos h]
theorem and64 : ∀ s, s < 64 → ∀ k, k < 64 → nI s &&& nI k = nI (s &&& k) := by decide +kernel
theorem or64 : ∀ s, s < 64 → ∀ k, k < 64 → nI s ||| nI k = nI (s ||| k) := by decide +kernel
