/-! THE REFERENCE: booking -/
def anyN (g : Nat → Bool) : Nat → Bool
  | 0 => false
  | n + 1 => anyN g n || g n
def cntN (g : Nat → Bool) : Nat → Nat
  | 0 => 0
  | n + 1 => cntN g n + (if g n = true then 1 else 0)
theorem anyN_of {g : Nat → Bool} {k : Nat} (hg : g k = true) : ∀ {n : Nat}, k < n → anyN g n = true
  | 0, h => by omega
  | n + 1, h => by
    show (anyN g n || g n) = true
    by_cases e : k = n
    · subst e; rw [hg, Bool.or_true]
    · rw [anyN_of hg (n := n) (by omega), Bool.true_or]
theorem anyN_iff {g : Nat → Bool} : ∀ {n : Nat}, anyN g n = true ↔ ∃ k, k < n ∧ g k = true
  | 0 => ⟨fun h => (by cases h), fun ⟨k, h, _⟩ => by omega⟩
  | n + 1 => by
    show (anyN g n || g n) = true ↔ _
    rw [Bool.or_eq_true, anyN_iff]
    exact ⟨fun h => h.elim (fun ⟨k, h1, h2⟩ => ⟨k, by omega, h2⟩) (fun h => ⟨n, by omega, h⟩), fun ⟨k, h1, h2⟩ => by
      by_cases e : k = n
      · subst e; exact Or.inr h2
      · exact Or.inl ⟨k, by omega, h2⟩⟩
theorem anyN_f {g : Nat → Bool} {n : Nat} : anyN g n = false ↔ ∀ k, k < n → g k = false := by
  constructor
  · intro h k hk
    cases hg : g k with
    | false => rfl
    | true => rw [anyN_of hg hk] at h; cases h
  · intro h
    cases ha : anyN g n with
    | false => rfl
    | true =>
      obtain ⟨k, h1, h2⟩ := anyN_iff.mp ha
      rw [h k h1] at h2; cases h2
theorem cntN_le (g : Nat → Bool) : ∀ n, cntN g n ≤ n
  | 0 => Nat.le_refl _
  | n + 1 => by
    have := cntN_le g n
    show cntN g n + (if g n = true then 1 else 0) ≤ n + 1
    split <;> omega
theorem jb_n1 {b : Bool} (h : ¬ jb b = 1) : b = false := by
  cases b with
  | false => rfl
  | true => exact absurd rfl h
theorem bit_all : ∀ a : Fin 64, ∀ s : Fin 6, (Int32.ofNat a.1 >>> (Int32.ofNat s.1 &&& 31)) &&& 1 = if a.1.testBit s.1 = true then 1 else 0 := by decide +kernel
theorem bit_eq {a s : Nat} (ha : a < 64) (hs : s < 6) : (nI a >>> (nI s &&& 31)) &&& 1 = jb (a.testBit s) := bit_all ⟨a, ha⟩ ⟨s, hs⟩
def BK (W H np b : Nat) (who day tck fin way : Nat → Int32) : Prop := b ≤ 12 ∧ ∀ i, i < b → (who i = nI (cN (who i)) ∧ cN (who i) < np) ∧ (day i = nI (cN (day i)) ∧ cN (day i) ≤ 40) ∧ (tck i = nI (cN (tck i)) ∧ fin i = nI (cN (fin i)) ∧ cN (tck i) ≤ cN (fin i) ∧ cN (fin i) < 96) ∧ ∀ j, cN (tck i) ≤ j → j ≤ cN (fin i) → way (96 * i + j) = nI (cN (way (96 * i + j))) ∧ cN (way (96 * i + j)) < W * H
def RK (I : Nat → Nat → Int32) (W H np b : Nat) : Prop := I 1069 32 = nI b ∧ BK W H np b (I 1094) (I 1095) (I 1096) (I 1097) (I 1098)
theorem RK.s {I J : Nat → Nat → Int32} {W H np b : Nat} (h : RK I W H np b) (he : eqs I J) : RK J W H np b := by
  have e : ∀ a, 1094 ≤ a → a ≤ 1098 → J a = I a := fun a h1 h2 => funext fun j => he a j (by
    unfold scr
    simp only [Bool.or_eq_false_iff, decide_eq_false_iff_not]
    omega)
  unfold RK at *
  rw [he 1069 32 (by decide), e 1094 (by omega) (by omega), e 1095 (by omega) (by omega), e 1096 (by omega) (by omega), e 1097 (by omega) (by omega), e 1098 (by omega) (by omega)]
  exact h
theorem RK.c {I : Nat → Nat → Int32} {W H np b : Nat} (h : RK I W H np b) (v : Int32) : RK (upI I 1069 2 v) W H np b := by
  unfold RK at *
  refine ⟨(upI_j (by decide)).trans h.1, ?_⟩
  have e : ∀ a, a ≠ 1069 → upI I 1069 2 v a = I a := fun a h => funext fun j => upI_nea' h
  rw [e 1094 (by decide), e 1095 (by decide), e 1096 (by decide), e 1097 (by decide), e 1098 (by decide)]
  exact h.2
def cbG (I : Nat → Nat → Int32) (p day k : Nat) : Bool := decide (cN (I 1094 k) = p) || (decide (cN (I 1095 k) = day) && (cN (I 1081 p)).testBit (cN (I 1094 k)))
def onD (I : Nat → Nat → Int32) (day k : Nat) : Bool := decide (cN (I 1095 k) = day)
def cbQ (I : Nat → Nat → Int32) (b p day : Nat) : Bool := !decide (b = 12) && decide (cN (I 1080 p) ≤ day) && !(anyN (cbG I p day) b) && decide (cntN (onD I day) b < cN (I 1072 8))
def plc (tck fin way : Nat → Int32) (i t : Nat) : Option Nat := if cN (tck i) ≤ t ∧ t ≤ cN (fin i) then some (cN (way (96 * i + t))) else none
def pl (I : Nat → Nat → Int32) (i t : Nat) : Option Nat := plc (I 1096) (I 1097) (I 1098) i t
def flo (I : Nat → Nat → Int32) (a off : Nat) (f : Nat → Int32) (k : Nat) : Nat → Nat → Int32 := fun b j => if b = a ∧ off ≤ j ∧ j < off + k then f (j - off) else I b j
theorem flo_0 (I : Nat → Nat → Int32) (a off : Nat) (f : Nat → Int32) : flo I a off f 0 = I := by
  funext b j
  unfold flo
  rw [if_neg (by omega)]
theorem flo_s (I : Nat → Nat → Int32) (a off : Nat) (f : Nat → Int32) (k : Nat) : upI (flo I a off f k) a (off + k) (f k) = flo I a off f (k + 1) := by
  funext b j
  unfold upI flo
  by_cases h1 : b = a ∧ j = off + k
  · rw [if_pos h1, if_pos ⟨h1.1, by omega, by omega⟩, h1.2, Nat.add_sub_cancel_left]
  · rw [if_neg h1]
    by_cases h2 : b = a ∧ off ≤ j ∧ j < off + k
    · rw [if_pos h2, if_pos ⟨h2.1, h2.2.1, by omega⟩]
    · rw [if_neg h2, if_neg (fun q => h2 ⟨q.1, q.2.1, by
        have : ¬ j = off + k := fun z => h1 ⟨q.1, z⟩
        omega⟩)]
theorem flo_ne {I : Nat → Nat → Int32} {a b off j k : Nat} {f : Nat → Int32} (h : b ≠ a) : flo I a off f k b j = I b j := by unfold flo; rw [if_neg (fun q => h q.1)]
theorem eqs_o2 {I J : Nat → Nat → Int32} (h : eqs I J) (a off k : Nat) (f : Nat → Int32) : eqs (flo I a off f k) (flo J a off f k) := fun b j hb => by
  unfold flo; split
  · rfl
  · exact h b j hb
theorem cbQ_s {I J : Nat → Nat → Int32} {b p day : Nat} (h : eqs (upI I 1069 2 0) J) : cbQ J b p day = cbQ I b p day := by
  have e : ∀ a j, a ≠ 1069 → scr a j = false → J a j = I a j := fun a j h1 h2 => (h a j h2).trans (upI_nea' h1)
  have g1 : cbG J p day = cbG I p day := funext fun k => by unfold cbG; rw [e 1094 k (by decide) (by unfold scr; simp), e 1095 k (by decide) (by unfold scr; simp), e 1081 p (by decide) (by unfold scr; simp)]
  have g2 : onD J day = onD I day := funext fun k => by unfold onD; rw [e 1095 k (by decide) (by unfold scr; simp)]
  unfold cbQ
  rw [g1, g2, e 1080 p (by decide) (by unfold scr; simp), e 1072 8 (by decide) (by decide)]
section RK2
variable {w : jWD} {l : Launch} {n : Nat} {I J : Nat → Nat → Int32} {L : Nat → Nat → Int64} {R : Nat → Nat → Option Nat}

set_option maxHeartbeats 1000000 in
set_option maxRecDepth 20000 in
theorem tX11_refuse (hW : jWok w l) (hR : RS R) {k : Nat} (hk : k < 3)  : jCD w l mX11_refuse 1 [.ref 1069, .int (nI k)] (n, shE, I, L, R) (some (.int (-1))) (n, shE, upI I 1083 k (I 1083 k + 1), L, R) := by
  refine jCD_of hW (by decide) rfl (Nat.le_of_ble_eq_true rfl) ?_
  refine jx_aload_n dX11_refuse_0 rfl ?_
  refine jx_getR dX11_refuse_1 flX11_68 rfl rfl (hR _ _ _ rfl) ?_
  refine jx_iload_n dX11_refuse_4 rfl ?_
  refine jx_dup2 dX11_refuse_5 rfl rfl ?_
  refine jx_ialdN (k) dX11_refuse_6 rfl (rfl) (by omega) (by omega) ?_
  refine jx_iconst (v := 1) dX11_refuse_7 (by decide) ?_
  refine jx_iadd dX11_refuse_8 ?_
  refine jx_iastN (k) dX11_refuse_9 rfl (rfl) (by omega) (by omega) ?_
  refine jx_iconst (v := -1) dX11_refuse_10 (by decide) ?_
  refine jx_iret dX11_refuse_11 rfl ?_
  exact ⟨rfl, rfl⟩
set_option maxHeartbeats 1000000 in
set_option maxRecDepth 20000 in
theorem tX11_canBook (hW : jWok w l) (hR : RS R) {W H np len b : Nat} (hI : RI I W H np len) (hB : RK I W H np b) {p day : Nat} (hp : p < np) (hd : day ≤ 40) : jCD w l mX11_canBook 1 [.ref 1069, .int (nI p), .int (nI day)] (n, shE, I, L, R) (some (.int (jb (cbQ I b p day)))) (n, shE, I, L, R) := by
  refine jCD_of hW (by decide) rfl (Nat.le_of_ble_eq_true rfl) ?_
  have hnp := hI.2.2.2.2.1.2
  obtain ⟨-, -, -, -, hdi, hqu⟩ := hI.2.2.2.2.2.1 p hp
  obtain ⟨hb, hb12, hbk⟩ := hB
  have he8 := hI.2.2.2.1.2.1
  have key : ¬ b = 12 → cN (I 1080 p) ≤ day → ∀ k, k ≤ b → anyN (cbG I p day) k = false → jWP w l mX11_canBook 1 0 0 (fun r t => r = some (.int (jb (cbQ I b p day))) ∧ t = (n, shE, I, L, R)) (fun _ _ => False) 26 [(0, .ref 1069), (1, .int (nI p)), (2, .int (nI day)), (3, .int (nI (cntN (onD I day) k))), (4, .int (nI k))] [] (n, shE, I, L, R) := by
    intro hn12 hdd
    refine jdown _ (fun k hk ih => ?_)
    intro ha
    have hcl := cntN_le (onD I day) k
    refine jx_iload dX11_canBook_26 rfl ?_
    refine jx_aload_n dX11_canBook_28 rfl ?_
    refine jx_getIE dX11_canBook_29 flX11_363 rfl rfl (hb) ?_
    refine jx_icmpN_ge (a := k) (b := b) 104 dX11_canBook_32 (by decide) (by omega) (by omega) (fun h32 => ?_) (fun h32 => ?_)
    · refine jx_iload_n dX11_canBook_104 rfl ?_
      refine jx_aload_n dX11_canBook_105 rfl ?_
      refine jx_getR dX11_canBook_106 flX11_34 rfl rfl (hR _ _ _ rfl) ?_
      refine jx_bipush (v := 8) dX11_canBook_109 (by decide) ?_
      refine jx_ialdE (8) dX11_canBook_111 rfl (rfl) (by omega) (by omega) (he8.1) ?_
      refine jx_icmpN_ge (a := (cntN (onD I day) k)) (b := (cN (I 1072 8))) 119 dX11_canBook_112 (by decide) (by omega) (by omega) (fun h112 => ?_) (fun h112 => ?_)
      · refine jx_iconst (v := 0) dX11_canBook_119 (by decide) ?_
        refine jx_zret dX11_canBook_120 rfl ?_ ?_
        · first | exact Or.inl rfl | exact Or.inr rfl | exact jb_or _
        have hkb : k = b := by omega
        subst hkb
        refine ⟨?_, rfl⟩
        have hF : cbQ I k p day = false := by
          unfold cbQ
          rw [ha, decide_eq_false hn12, decide_eq_true hdd]
          simp only [Bool.not_false, Bool.true_and]
          exact decide_eq_false (by omega)
        rw [hF]; rfl
      · refine jx_iconst (v := 1) dX11_canBook_115 (by decide) ?_
        refine jx_goto 120 dX11_canBook_116 (by decide) ?_
        refine jx_zret dX11_canBook_120 rfl ?_ ?_
        · first | exact Or.inl rfl | exact Or.inr rfl | exact jb_or _
        have hkb : k = b := by omega
        subst hkb
        refine ⟨?_, rfl⟩
        have hF : cbQ I k p day = true := by
          unfold cbQ
          rw [ha, decide_eq_false hn12, decide_eq_true hdd]
          simp only [Bool.not_false, Bool.true_and]
          exact decide_eq_true h112
        rw [hF]; rfl
    · have hk1 := hbk k h32
      have hq1 := hk1.1.2
      have hq2 := hk1.2.1.2
      refine jx_aload_n dX11_canBook_35 rfl ?_
      refine jx_getR dX11_canBook_36 flX11_109 rfl rfl (hR _ _ _ rfl) ?_
      refine jx_iload dX11_canBook_39 rfl ?_
      refine jx_ialdE (k) dX11_canBook_41 rfl (rfl) (by omega) (by omega) (hk1.1.1) ?_
      refine jx_iload_n dX11_canBook_42 rfl ?_
      refine jx_icmpN_eq (a := (cN (I 1094 k))) (b := p) 77 dX11_canBook_43 (by decide) (by omega) (by omega) (fun h43 => ?_) (fun h43 => ?_)
      · have hg : cbG I p day k = true := by
          unfold cbG
          first | (rw [decide_eq_true h43, Bool.true_or]; done) | rw [decide_eq_true h54, jb_1.mp h74, Bool.true_and, Bool.or_true]
        have hF : cbQ I b p day = false := by
          unfold cbQ
          rw [anyN_of hg h32]
          simp
        refine jx_iconst (v := 0) dX11_canBook_77 (by decide) ?_
        refine jx_zret dX11_canBook_78 rfl ?_ ?_
        · first | exact Or.inl rfl | exact Or.inr rfl | exact jb_or _
        refine ⟨?_, rfl⟩
        rw [hF]; rfl
      · refine jx_aload_n dX11_canBook_46 rfl ?_
        refine jx_getR dX11_canBook_47 flX11_112 rfl rfl (hR _ _ _ rfl) ?_
        refine jx_iload dX11_canBook_50 rfl ?_
        refine jx_ialdE (k) dX11_canBook_52 rfl (rfl) (by omega) (by omega) (hk1.2.1.1) ?_
        refine jx_iload_n dX11_canBook_53 rfl ?_
        refine jx_icmpN_ne (a := (cN (I 1095 k))) (b := day) 79 dX11_canBook_54 (by decide) (by omega) (by omega) (fun h54 => ?_) (fun h54 => ?_)
        · have hg : cbG I p day k = false := by
            unfold cbG
            rw [decide_eq_false h43, Bool.false_or]
            first | (rw [decide_eq_false h54, Bool.false_and]; done) | rw [jb_n1 h74, Bool.and_false]
          refine jx_iload_n dX11_canBook_79 rfl ?_
          refine jx_aload_n dX11_canBook_80 rfl ?_
          refine jx_getR dX11_canBook_81 flX11_112 rfl rfl (hR _ _ _ rfl) ?_
          refine jx_iload dX11_canBook_84 rfl ?_
          refine jx_ialdE (k) dX11_canBook_86 rfl (rfl) (by omega) (by omega) (hk1.2.1.1) ?_
          refine jx_iload_n dX11_canBook_87 rfl ?_
          refine jx_icmpN_ne (a := (cN (I 1095 k))) (b := day) 95 dX11_canBook_88 (by decide) (by omega) (by omega) (fun h88 => ?_) (fun h88 => ?_)
          · refine jx_iconst (v := 0) dX11_canBook_95 (by decide) ?_
            refine jx_iaddE (z := nI ((cntN (onD I day) k) + 0)) dX11_canBook_96 (nI_add (cntN (onD I day) k) 0) ?_
            refine jx_istore_n dX11_canBook_97 rfl (by decide) ?_
            refine jx_iinc dX11_canBook_98 rfl (v := nI (k + 1)) (nI_1 _) (by decide) ?_
            refine jx_goto 26 dX11_canBook_101 (by decide) ?_
            have e1 : cntN (onD I day) (k + 1) = cntN (onD I day) k + 0 := by
              show cntN (onD I day) k + (if onD I day k = true then 1 else 0) = _
              unfold onD
              rw [if_neg (fun z => h88 (of_decide_eq_true z))]
            have kk := ih h32 (by show (anyN (cbG I p day) k || cbG I p day k) = false; rw [ha, Bool.false_or]; exact hg)
            rw [e1] at kk
            exact jx_ls (by exact ⟨rfl, rfl, rfl, rfl, rfl, trivial⟩) kk
          · refine jx_iconst (v := 1) dX11_canBook_91 (by decide) ?_
            refine jx_goto 96 dX11_canBook_92 (by decide) ?_
            refine jx_iaddE (z := nI ((cntN (onD I day) k) + 1)) dX11_canBook_96 (nI_add (cntN (onD I day) k) 1) ?_
            refine jx_istore_n dX11_canBook_97 rfl (by decide) ?_
            refine jx_iinc dX11_canBook_98 rfl (v := nI (k + 1)) (nI_1 _) (by decide) ?_
            refine jx_goto 26 dX11_canBook_101 (by decide) ?_
            have e1 : cntN (onD I day) (k + 1) = cntN (onD I day) k + 1 := by
              show cntN (onD I day) k + (if onD I day k = true then 1 else 0) = _
              unfold onD
              rw [if_pos (decide_eq_true h88)]
            have kk := ih h32 (by show (anyN (cbG I p day) k || cbG I p day k) = false; rw [ha, Bool.false_or]; exact hg)
            rw [e1] at kk
            exact jx_ls (by exact ⟨rfl, rfl, rfl, rfl, rfl, trivial⟩) kk
        · refine jx_aload_n dX11_canBook_57 rfl ?_
          refine jx_getR dX11_canBook_58 flX11_62 rfl rfl (hR _ _ _ rfl) ?_
          refine jx_iload_n dX11_canBook_61 rfl ?_
          refine jx_ialdE (p) dX11_canBook_62 rfl (rfl) (by omega) (by omega) (hqu.1) ?_
          refine jx_aload_n dX11_canBook_63 rfl ?_
          refine jx_getR dX11_canBook_64 flX11_109 rfl rfl (hR _ _ _ rfl) ?_
          refine jx_iload dX11_canBook_67 rfl ?_
          refine jx_ialdE (k) dX11_canBook_69 rfl (rfl) (by omega) (by omega) (hk1.1.1) ?_
          refine jx_ishr dX11_canBook_70 ?_
          refine jx_iconst (v := 1) dX11_canBook_71 (by decide) ?_
          refine jx_iandE (z := jb ((cN (I 1081 p)).testBit (cN (I 1094 k)))) dX11_canBook_72 (bit_eq hqu.2 (by omega)) ?_
          refine jx_iconst (v := 1) dX11_canBook_73 (by decide) ?_
          refine jx_icmp_ne 79 dX11_canBook_74 (by decide) (fun h74 => ?_) (fun h74 => ?_)
          · have hg : cbG I p day k = false := by
              unfold cbG
              rw [decide_eq_false h43, Bool.false_or]
              first | (rw [decide_eq_false h54, Bool.false_and]; done) | rw [jb_n1 h74, Bool.and_false]
            refine jx_iload_n dX11_canBook_79 rfl ?_
            refine jx_aload_n dX11_canBook_80 rfl ?_
            refine jx_getR dX11_canBook_81 flX11_112 rfl rfl (hR _ _ _ rfl) ?_
            refine jx_iload dX11_canBook_84 rfl ?_
            refine jx_ialdE (k) dX11_canBook_86 rfl (rfl) (by omega) (by omega) (hk1.2.1.1) ?_
            refine jx_iload_n dX11_canBook_87 rfl ?_
            refine jx_icmpN_ne (a := (cN (I 1095 k))) (b := day) 95 dX11_canBook_88 (by decide) (by omega) (by omega) (fun h88 => ?_) (fun h88 => ?_)
            · refine jx_iconst (v := 0) dX11_canBook_95 (by decide) ?_
              refine jx_iaddE (z := nI ((cntN (onD I day) k) + 0)) dX11_canBook_96 (nI_add (cntN (onD I day) k) 0) ?_
              refine jx_istore_n dX11_canBook_97 rfl (by decide) ?_
              refine jx_iinc dX11_canBook_98 rfl (v := nI (k + 1)) (nI_1 _) (by decide) ?_
              refine jx_goto 26 dX11_canBook_101 (by decide) ?_
              have e1 : cntN (onD I day) (k + 1) = cntN (onD I day) k + 0 := by
                show cntN (onD I day) k + (if onD I day k = true then 1 else 0) = _
                unfold onD
                rw [if_neg (fun z => h88 (of_decide_eq_true z))]
              have kk := ih h32 (by show (anyN (cbG I p day) k || cbG I p day k) = false; rw [ha, Bool.false_or]; exact hg)
              rw [e1] at kk
              exact jx_ls (by exact ⟨rfl, rfl, rfl, rfl, rfl, trivial⟩) kk
            · refine jx_iconst (v := 1) dX11_canBook_91 (by decide) ?_
              refine jx_goto 96 dX11_canBook_92 (by decide) ?_
              refine jx_iaddE (z := nI ((cntN (onD I day) k) + 1)) dX11_canBook_96 (nI_add (cntN (onD I day) k) 1) ?_
              refine jx_istore_n dX11_canBook_97 rfl (by decide) ?_
              refine jx_iinc dX11_canBook_98 rfl (v := nI (k + 1)) (nI_1 _) (by decide) ?_
              refine jx_goto 26 dX11_canBook_101 (by decide) ?_
              have e1 : cntN (onD I day) (k + 1) = cntN (onD I day) k + 1 := by
                show cntN (onD I day) k + (if onD I day k = true then 1 else 0) = _
                unfold onD
                rw [if_pos (decide_eq_true h88)]
              have kk := ih h32 (by show (anyN (cbG I p day) k || cbG I p day k) = false; rw [ha, Bool.false_or]; exact hg)
              rw [e1] at kk
              exact jx_ls (by exact ⟨rfl, rfl, rfl, rfl, rfl, trivial⟩) kk
          · have hg : cbG I p day k = true := by
              unfold cbG
              first | (rw [decide_eq_true h43, Bool.true_or]; done) | rw [decide_eq_true h54, jb_1.mp h74, Bool.true_and, Bool.or_true]
            have hF : cbQ I b p day = false := by
              unfold cbQ
              rw [anyN_of hg h32]
              simp
            refine jx_iconst (v := 0) dX11_canBook_77 (by decide) ?_
            refine jx_zret dX11_canBook_78 rfl ?_ ?_
            · first | exact Or.inl rfl | exact Or.inr rfl | exact jb_or _
            refine ⟨?_, rfl⟩
            rw [hF]; rfl
  refine jx_aload_n dX11_canBook_0 rfl ?_
  refine jx_getIE dX11_canBook_1 flX11_363 rfl rfl (hb) ?_
  refine jx_bipush (v := 12) dX11_canBook_4 (by decide) ?_
  have hdl := hdi.2
  refine jx_icmpN_eq (a := b) (b := 12) 19 dX11_canBook_6 (by decide) (by omega) (by omega) (fun h6 => ?_) (fun h6 => ?_)
  · refine jx_iconst (v := 0) dX11_canBook_19 (by decide) ?_
    refine jx_zret dX11_canBook_20 rfl ?_ ?_
    · first | exact Or.inl rfl | exact Or.inr rfl | exact jb_or _
    refine ⟨?_, rfl⟩
    have hF : cbQ I b p day = false := by
      unfold cbQ
      first | (rw [decide_eq_true h6]; simp; done) | (rw [decide_eq_false (show ¬ cN (I 1080 p) ≤ day by omega)]; simp)
    rw [hF]; rfl
  · refine jx_iload_n dX11_canBook_9 rfl ?_
    refine jx_aload_n dX11_canBook_10 rfl ?_
    refine jx_getR dX11_canBook_11 flX11_59 rfl rfl (hR _ _ _ rfl) ?_
    refine jx_iload_n dX11_canBook_14 rfl ?_
    refine jx_ialdE (p) dX11_canBook_15 rfl (rfl) (by omega) (by omega) (hdi.1) ?_
    refine jx_icmpN_ge (a := day) (b := (cN (I 1080 p))) 21 dX11_canBook_16 (by decide) (by omega) (by omega) (fun h16 => ?_) (fun h16 => ?_)
    · refine jx_iconst (v := 0) dX11_canBook_21 (by decide) ?_
      refine jx_istore_n dX11_canBook_22 rfl (by decide) ?_
      refine jx_iconst (v := 0) dX11_canBook_23 (by decide) ?_
      refine jx_istore dX11_canBook_24 (by decide) ?_
      exact jx_ls (by exact ⟨rfl, rfl, rfl, rfl, rfl, trivial⟩) (key h6 h16 0 (by omega) rfl)
    · refine jx_iconst (v := 0) dX11_canBook_19 (by decide) ?_
      refine jx_zret dX11_canBook_20 rfl ?_ ?_
      · first | exact Or.inl rfl | exact Or.inr rfl | exact jb_or _
      refine ⟨?_, rfl⟩
      have hF : cbQ I b p day = false := by
        unfold cbQ
        first | (rw [decide_eq_true h6]; simp; done) | (rw [decide_eq_false (show ¬ cN (I 1080 p) ≤ day by omega)]; simp)
      rw [hF]; rfl
set_option maxHeartbeats 1000000 in
set_option maxRecDepth 20000 in
theorem tX11_isBooked (hW : jWok w l) (hR : RS R) {b : Nat} (hb : I 1069 32 = nI b) (hb12 : b ≤ 12) (c : Int32)  : jCD w l mX11_isBooked 2 [.ref 1069, .int c] (n, shE, I, L, R) (some (.int (jb (ltQ c b)))) (n, shE, I, L, R) := by
  refine jCD_of hW (by decide) rfl (Nat.le_of_ble_eq_true rfl) ?_
  refine jx_iload_n dX11_isBooked_0 rfl ?_
  refine jx_i2l dX11_isBooked_1 ?_
  refine jx_lconst (v := 0) dX11_isBooked_2 (by decide) ?_
  refine jx_aload_n dX11_isBooked_3 rfl ?_
  refine jx_getIE dX11_isBooked_4 flX11_363 rfl rfl (hb) ?_
  refine jx_iconst (v := 1) dX11_isBooked_7 (by decide) ?_
  refine jx_isub dX11_isBooked_8 ?_
  refine jx_i2l dX11_isBooked_9 ?_
  refine jx_Si (as := [.long _, .long _, .long _]) dX11_isBooked_10 mlX11_190 okX11_isIn stX11_isIn rfl rfl (by decide) (Nat.le_of_ble_eq_true rfl) (tX11_isInC2 hW 0 (by decide) _) ?_
  refine jx_zret dX11_isBooked_13 rfl ?_ ?_
  · first | exact Or.inl rfl | exact Or.inr rfl | exact jb_or _
  refine ⟨?_, rfl⟩
  congr 3
  unfold ltQ
  have e1 : (nI b - 1).toInt = (b : Int) - 1 := pk_sub_toInt (a := b) (b := 1) (by omega) (by omega)
  rw [decide_eq_decide, e1]
  omega
theorem tX11_isBookedT (hW : jWok w l) (hR : RS R) {i b : Nat} (hb : I 1069 32 = nI b) (hb12 : b ≤ 12) (hi : i < b) : jCD w l mX11_isBooked 2 [.ref 1069, .int (nI i)] (n, shE, I, L, R) (some (.int (jb true))) (n, shE, I, L, R) := by
  have := tX11_isBooked (n := n) (L := L) hW hR hb hb12 (nI i)
  rw [ltQ_nI hi (by omega)] at this
  exact this
set_option maxHeartbeats 1000000 in
set_option maxRecDepth 20000 in
theorem tX11_undo (hW : jWok w l) {b : Nat} (hb : I 1069 32 = nI b) (hb12 : b ≤ 12) : jCD w l mX11_undo 1 [.ref 1069] (n, shE, I, L, R) (some (.int (if b = 0 then -1 else nI (b - 1)))) (n, shE, if b = 0 then upI I 1069 2 0 else upI (upI I 1069 2 0) 1069 32 (nI (b - 1)), L, R) := by
  refine jCD_of hW (by decide) rfl (Nat.le_of_ble_eq_true rfl) ?_
  refine jx_aload_n dX11_undo_0 rfl ?_
  refine jx_iconst (v := 0) dX11_undo_1 (by decide) ?_
  refine jx_putI dX11_undo_2 flX11_187 rfl rfl (fun r h => by cases h; rfl) ?_
  refine jx_aload_n dX11_undo_5 rfl ?_
  refine jx_getIE dX11_undo_6 flX11_363 rfl rfl ((upI_j (by decide)).trans hb) ?_
  refine jx_ifN_ne (a := b) 14 dX11_undo_9 (by decide) (by omega) (fun h9 => ?_) (fun h9 => ?_)
  · refine jx_aload_n dX11_undo_14 rfl ?_
    refine jx_dup dX11_undo_15 rfl ?_
    refine jx_getIE dX11_undo_16 flX11_363 rfl rfl ((upI_j (by decide)).trans hb) ?_
    refine jx_iconst (v := 1) dX11_undo_19 (by decide) ?_
    refine jx_isubE (z := nI (b - 1)) dX11_undo_20 (pk_sub (a := b) (b := 1) (by omega)) ?_
    refine jx_putI dX11_undo_21 flX11_363 rfl rfl (fun r h => by cases h; rfl) ?_
    refine jx_aload_n dX11_undo_24 rfl ?_
    refine jx_getIE dX11_undo_25 flX11_363 rfl rfl (upI_s) ?_
    refine jx_iret dX11_undo_28 rfl ?_
    rw [if_neg h9, if_neg h9]
    exact ⟨rfl, rfl⟩
  · refine jx_iconst (v := -1) dX11_undo_12 (by decide) ?_
    refine jx_iret dX11_undo_13 rfl ?_
    rw [if_pos h9, if_pos h9]
    exact ⟨rfl, rfl⟩
set_option maxHeartbeats 1000000 in
set_option maxRecDepth 20000 in
theorem tX11_placeOf (hW : jWok w l) (hR : RS R) {W H np b : Nat} (hB : RK I W H np b) {i t : Nat} (hi : i < b) (ht : t < 96)  : jCD w l mX11_placeOf 2 [.ref 1069, .int (nI i), .int (nI t)] (n, shE, I, L, R) (some (.int (oI (pl I i t)))) (n, shE, I, L, R) := by
  refine jCD_of hW (by decide) rfl (Nat.le_of_ble_eq_true rfl) ?_
  obtain ⟨hb, hb12, hbk⟩ := hB
  have hbi := hbk i hi
  have hq3 := hbi.2.2.1.2.2
  refine jx_iload_n dX11_placeOf_0 rfl ?_
  refine jx_i2l dX11_placeOf_1 ?_
  refine jx_aload_n dX11_placeOf_2 rfl ?_
  refine jx_getR dX11_placeOf_3 flX11_115 rfl rfl (hR _ _ _ rfl) ?_
  refine jx_iload_n dX11_placeOf_6 rfl ?_
  refine jx_ialdE (i) dX11_placeOf_7 rfl (rfl) (by omega) (by omega) (hbi.2.2.1.1) ?_
  refine jx_i2l dX11_placeOf_8 ?_
  refine jx_aload_n dX11_placeOf_9 rfl ?_
  refine jx_getR dX11_placeOf_10 flX11_118 rfl rfl (hR _ _ _ rfl) ?_
  refine jx_iload_n dX11_placeOf_13 rfl ?_
  refine jx_ialdE (i) dX11_placeOf_14 rfl (rfl) (by omega) (by omega) (hbi.2.2.1.2.1) ?_
  refine jx_i2l dX11_placeOf_15 ?_
  refine jx_Si (as := [.long _, .long _, .long _]) dX11_placeOf_16 mlX11_190 okX11_isIn stX11_isIn rfl rfl (by decide) (Nat.le_of_ble_eq_true rfl) (tX11_isInC hW _ _ (Int32.toInt_toInt64 _) (Int32.toInt_toInt64 _) _) ?_
  refine jx_ifB_eq 36 dX11_placeOf_19 (by decide) (fun h19 => ?_) (fun h19 => ?_)
  · have h3 := of_decide_eq_false h19
    rw [nI_toInt (by omega), nI_toInt (by omega), nI_toInt (by omega)] at h3
    refine jx_iconst (v := -1) dX11_placeOf_36 (by decide) ?_
    refine jx_iret dX11_placeOf_37 rfl ?_
    refine ⟨?_, rfl⟩
    unfold pl plc
    first | (rw [if_neg (by omega)]; rfl) | (rw [if_pos (by omega)]; rfl)
  · have h3 := of_decide_eq_true h19
    rw [nI_toInt (by omega), nI_toInt (by omega), nI_toInt (by omega)] at h3
    refine jx_aload_n dX11_placeOf_22 rfl ?_
    refine jx_getR dX11_placeOf_23 flX11_121 rfl rfl (hR _ _ _ rfl) ?_
    refine jx_bipush (v := 96) dX11_placeOf_26 (by decide) ?_
    refine jx_iload_n dX11_placeOf_28 rfl ?_
    refine jx_imulE (z := nI (96 * i)) dX11_placeOf_29 (pk_mul 96 i) ?_
    refine jx_iload_n dX11_placeOf_30 rfl ?_
    refine jx_iaddE (z := nI ((96 * i) + t)) dX11_placeOf_31 (nI_add (96 * i) t) ?_
    refine jx_ialdE ((96 * i) + t) dX11_placeOf_32 rfl (rfl) (by omega) (by omega) ((hbi.2.2.2 t (by omega) (by omega)).1) ?_
    refine jx_goto 37 dX11_placeOf_33 (by decide) ?_
    refine jx_iret dX11_placeOf_37 rfl ?_
    refine ⟨?_, rfl⟩
    unfold pl plc
    first | (rw [if_neg (by omega)]; rfl) | (rw [if_pos (by omega)]; rfl)
set_option maxHeartbeats 1000000 in
set_option maxRecDepth 20000 in
theorem tX11_bookedF (hW : jWok w l) (hR : RS R) {W H np len : Nat} (hI : RI I W H np len) (i k : Int32) {b : Nat} (hB : RK I W H np b) (hbad : ¬ (ltQ i b = true ∧ 0 ≤ k.toInt ∧ k.toInt ≤ 3)) : jCD w l mX11_booked 3 [.ref 1069, .int i, .int k] (n, shE, I, L, R) (some (.int 0)) (n, shE, upI I 1069 2 1, L, R) := by
  refine jCD_of hW (by decide) rfl (Nat.le_of_ble_eq_true rfl) ?_
  have hI0 := hI.kp (k0 I)
  refine jx_aload_n dX11_booked_0 rfl ?_
  refine jx_iconst (v := 0) dX11_booked_1 (by decide) ?_
  refine jx_putI dX11_booked_2 flX11_187 rfl rfl (fun r h => by cases h; rfl) ?_
  refine jx_aload_n dX11_booked_5 rfl ?_
  refine jx_iload_n dX11_booked_6 rfl ?_
  refine jx_Vi (as := [.int _]) dX11_booked_7 mlX11_470 okX11_isBooked viX11_isBooked rfl rfl rfl rfl rfl (by decide) (Nat.le_of_ble_eq_true rfl) (tX11_isBooked hW hR (hB.c 0).1 hB.2.1 _) ?_
  refine jx_ifB_ne 19 dX11_booked_10 (by decide) (fun h10 => ?_) (fun h10 => ?_)
  · refine jx_iload_n dX11_booked_19 rfl ?_
    refine jx_if_ne 32 dX11_booked_20 (by decide) (fun h20 => ?_) (fun h20 => ?_)
    · refine jx_iload_n dX11_booked_32 rfl ?_
      refine jx_iconst (v := 1) dX11_booked_33 (by decide) ?_
      refine jx_icmp_ne 46 dX11_booked_34 (by decide) (fun h34 => ?_) (fun h34 => ?_)
      · refine jx_iload_n dX11_booked_46 rfl ?_
        refine jx_iconst (v := 2) dX11_booked_47 (by decide) ?_
        refine jx_icmp_ne 60 dX11_booked_48 (by decide) (fun h48 => ?_) (fun h48 => ?_)
        · refine jx_iload_n dX11_booked_60 rfl ?_
          refine jx_iconst (v := 3) dX11_booked_61 (by decide) ?_
          refine jx_icmp_ne 74 dX11_booked_62 (by decide) (fun h62 => ?_) (fun h62 => ?_)
          · refine jx_aload_n dX11_booked_74 rfl ?_
            refine jx_iconst (v := 1) dX11_booked_75 (by decide) ?_
            refine jx_Vi (as := [.int _]) dX11_booked_76 mlX11_351 okX11_fail viX11_fail rfl rfl rfl rfl rfl (by decide) (Nat.le_of_ble_eq_true rfl) (tX11_fail hW _) ?_
            refine jx_iret dX11_booked_79 rfl ?_
            exact ⟨rfl, by rw [up_up]⟩
          · exfalso
            first | (rw [h20] at hbad; exact hbad ⟨h10, by decide, by decide⟩) | (rw [h34] at hbad; exact hbad ⟨h10, by decide, by decide⟩) | (rw [h48] at hbad; exact hbad ⟨h10, by decide, by decide⟩) | (rw [h62] at hbad; exact hbad ⟨h10, by decide, by decide⟩)
        · exfalso
          first | (rw [h20] at hbad; exact hbad ⟨h10, by decide, by decide⟩) | (rw [h34] at hbad; exact hbad ⟨h10, by decide, by decide⟩) | (rw [h48] at hbad; exact hbad ⟨h10, by decide, by decide⟩) | (rw [h62] at hbad; exact hbad ⟨h10, by decide, by decide⟩)
      · exfalso
        first | (rw [h20] at hbad; exact hbad ⟨h10, by decide, by decide⟩) | (rw [h34] at hbad; exact hbad ⟨h10, by decide, by decide⟩) | (rw [h48] at hbad; exact hbad ⟨h10, by decide, by decide⟩) | (rw [h62] at hbad; exact hbad ⟨h10, by decide, by decide⟩)
    · exfalso
      first | (rw [h20] at hbad; exact hbad ⟨h10, by decide, by decide⟩) | (rw [h34] at hbad; exact hbad ⟨h10, by decide, by decide⟩) | (rw [h48] at hbad; exact hbad ⟨h10, by decide, by decide⟩) | (rw [h62] at hbad; exact hbad ⟨h10, by decide, by decide⟩)
  · refine jx_aload_n dX11_booked_13 rfl ?_
    refine jx_iconst (v := 1) dX11_booked_14 (by decide) ?_
    refine jx_Vi (as := [.int _]) dX11_booked_15 mlX11_351 okX11_fail viX11_fail rfl rfl rfl rfl rfl (by decide) (Nat.le_of_ble_eq_true rfl) (tX11_fail hW _) ?_
    refine jx_iret dX11_booked_18 rfl ?_
    exact ⟨rfl, by rw [up_up]⟩
def bookV (I : Nat → Nat → Int32) (i k : Nat) : Int32 := I (1094 + k) i
set_option maxHeartbeats 1000000 in
set_option maxRecDepth 20000 in
theorem tX11_booked (hW : jWok w l) (hR : RS R) {W H np len : Nat} (hI : RI I W H np len) {b : Nat} (hB : RK I W H np b) {i k : Nat} (hi : i < b) (hk : k ≤ 3) : jRi w l mX11_booked 3 [.ref 1069, .int (nI i), .int (nI k)] (n, shE, I, L, R) (fun r t => r = bookV I i k ∧ ∃ J, t = (n, shE, J, L, R) ∧ eqs (upI I 1069 2 0) J) := by
  refine jRi_of hW (by decide) rfl (Nat.le_of_ble_eq_true rfl) ?_
  have hI0 := hI.kp (k0 I)
  have hT := hI0.1.1
  have hz := hT.wh
  have hw3 := hT.2.2.1
  have hw9 := hT.2.2.2.1
  have hh1 := hT.2.2.2.2.1
  have hh7 := hT.2.2.2.2.2
  have hnp := hI0.2.2.2.2.1.2
  have hb12 := hB.2.1
  refine jx_aload_n dX11_booked_0 rfl ?_
  refine jx_iconst (v := 0) dX11_booked_1 (by decide) ?_
  refine jx_putI dX11_booked_2 flX11_187 rfl rfl (fun r h => by cases h; rfl) ?_
  refine jx_aload_n dX11_booked_5 rfl ?_
  refine jx_iload_n dX11_booked_6 rfl ?_
  refine jx_Vi (as := [.int _]) dX11_booked_7 mlX11_470 okX11_isBooked viX11_isBooked rfl rfl rfl rfl rfl (by decide) (Nat.le_of_ble_eq_true rfl) (tX11_isBookedT hW hR (hB.c 0).1 hB.2.1 hi) ?_
  refine jx_ifB_ne 19 dX11_booked_10 (by decide) (fun h10 => ?_) (fun h10 => by cases h10)
  refine jx_iload_n dX11_booked_19 rfl ?_
  refine jx_ifN_ne (a := k) 32 dX11_booked_20 (by decide) (by omega) (fun h20 => ?_) (fun h20 => ?_)
  · refine jx_iload_n dX11_booked_32 rfl ?_
    refine jx_iconst (v := 1) dX11_booked_33 (by decide) ?_
    refine jx_icmpN_ne (a := k) (b := 1) 46 dX11_booked_34 (by decide) (by omega) (by omega) (fun h34 => ?_) (fun h34 => ?_)
    · refine jx_iload_n dX11_booked_46 rfl ?_
      refine jx_iconst (v := 2) dX11_booked_47 (by decide) ?_
      refine jx_icmpN_ne (a := k) (b := 2) 60 dX11_booked_48 (by decide) (by omega) (by omega) (fun h48 => ?_) (fun h48 => ?_)
      · refine jx_iload_n dX11_booked_60 rfl ?_
        refine jx_iconst (v := 3) dX11_booked_61 (by decide) ?_
        refine jx_icmpN_ne (a := k) (b := 3) 74 dX11_booked_62 (by decide) (by omega) (by omega) (fun h62 => ?_) (fun h62 => ?_)
        · exfalso; omega
        · refine jx_aload_n dX11_booked_65 rfl ?_
          refine jx_getR dX11_booked_66 flX11_118 rfl rfl (hR _ _ _ rfl) ?_
          refine jx_iload_n dX11_booked_69 rfl ?_
          refine jx_ialdN (i) dX11_booked_70 rfl (rfl) (by omega) (by omega) ?_
          refine jx_goto 79 dX11_booked_71 (by decide) ?_
          refine jx_iret dX11_booked_79 rfl ?_
          refine ⟨_, rfl, ?_, _, rfl, eqs_r _⟩
          first | (subst h20; rfl) | (subst h34; rfl) | (subst h48; rfl) | (subst h62; rfl)
      · refine jx_aload_n dX11_booked_51 rfl ?_
        refine jx_getR dX11_booked_52 flX11_115 rfl rfl (hR _ _ _ rfl) ?_
        refine jx_iload_n dX11_booked_55 rfl ?_
        refine jx_ialdN (i) dX11_booked_56 rfl (rfl) (by omega) (by omega) ?_
        refine jx_goto 79 dX11_booked_57 (by decide) ?_
        refine jx_iret dX11_booked_79 rfl ?_
        refine ⟨_, rfl, ?_, _, rfl, eqs_r _⟩
        first | (subst h20; rfl) | (subst h34; rfl) | (subst h48; rfl) | (subst h62; rfl)
    · refine jx_aload_n dX11_booked_37 rfl ?_
      refine jx_getR dX11_booked_38 flX11_112 rfl rfl (hR _ _ _ rfl) ?_
      refine jx_iload_n dX11_booked_41 rfl ?_
      refine jx_ialdN (i) dX11_booked_42 rfl (rfl) (by omega) (by omega) ?_
      refine jx_goto 79 dX11_booked_43 (by decide) ?_
      refine jx_iret dX11_booked_79 rfl ?_
      refine ⟨_, rfl, ?_, _, rfl, eqs_r _⟩
      first | (subst h20; rfl) | (subst h34; rfl) | (subst h48; rfl) | (subst h62; rfl)
  · refine jx_aload_n dX11_booked_23 rfl ?_
    refine jx_getR dX11_booked_24 flX11_109 rfl rfl (hR _ _ _ rfl) ?_
    refine jx_iload_n dX11_booked_27 rfl ?_
    refine jx_ialdN (i) dX11_booked_28 rfl (rfl) (by omega) (by omega) ?_
    refine jx_goto 79 dX11_booked_29 (by decide) ?_
    refine jx_iret dX11_booked_79 rfl ?_
    refine ⟨_, rfl, ?_, _, rfl, eqs_r _⟩
    first | (subst h20; rfl) | (subst h34; rfl) | (subst h48; rfl) | (subst h62; rfl)
set_option maxHeartbeats 1000000 in
set_option maxRecDepth 20000 in
theorem tX11_atF (hW : jWok w l) (hR : RS R) {W H np len : Nat} (hI : RI I W H np len) (i tick : Int32) {b : Nat} (hB : RK I W H np b) (hbad : ¬ (ltQ i b = true ∧ tickQ tick = true)) : jCD w l mX11_at 3 [.ref 1069, .int i, .int tick] (n, shE, I, L, R) (some (.int 0)) (n, shE, upI I 1069 2 1, L, R) := by
  refine jCD_of hW (by decide) rfl (Nat.le_of_ble_eq_true rfl) ?_
  have hI0 := hI.kp (k0 I)
  refine jx_aload_n dX11_at_0 rfl ?_
  refine jx_iconst (v := 0) dX11_at_1 (by decide) ?_
  refine jx_putI dX11_at_2 flX11_187 rfl rfl (fun r h => by cases h; rfl) ?_
  refine jx_aload_n dX11_at_5 rfl ?_
  refine jx_iload_n dX11_at_6 rfl ?_
  refine jx_Vi (as := [.int _]) dX11_at_7 mlX11_470 okX11_isBooked viX11_isBooked rfl rfl rfl rfl rfl (by decide) (Nat.le_of_ble_eq_true rfl) (tX11_isBooked hW hR (hB.c 0).1 hB.2.1 _) ?_
  refine jx_ifB_eq 29 dX11_at_10 (by decide) (fun h10 => ?_) (fun h10 => ?_)
  · refine jx_aload_n dX11_at_29 rfl ?_
    refine jx_iconst (v := 1) dX11_at_30 (by decide) ?_
    refine jx_Vi (as := [.int _]) dX11_at_31 mlX11_351 okX11_fail viX11_fail rfl rfl rfl rfl rfl (by decide) (Nat.le_of_ble_eq_true rfl) (tX11_fail hW _) ?_
    refine jx_iret dX11_at_34 rfl ?_
    exact ⟨rfl, by rw [up_up]⟩
  · refine jx_iload_n dX11_at_13 rfl ?_
    refine jx_Si (as := [.int _]) dX11_at_14 mlX11_445 okX11_isTick stX11_isTick rfl rfl (by decide) (Nat.le_of_ble_eq_true rfl) (tX11_isTick hW _) ?_
    refine jx_ifB_eq 29 dX11_at_17 (by decide) (fun h17 => ?_) (fun h17 => ?_)
    · refine jx_aload_n dX11_at_29 rfl ?_
      refine jx_iconst (v := 1) dX11_at_30 (by decide) ?_
      refine jx_Vi (as := [.int _]) dX11_at_31 mlX11_351 okX11_fail viX11_fail rfl rfl rfl rfl rfl (by decide) (Nat.le_of_ble_eq_true rfl) (tX11_fail hW _) ?_
      refine jx_iret dX11_at_34 rfl ?_
      exact ⟨rfl, by rw [up_up]⟩
    · exact absurd ⟨h10, h17⟩ hbad
set_option maxHeartbeats 1000000 in
set_option maxRecDepth 20000 in
theorem tX11_at (hW : jWok w l) (hR : RS R) {W H np len : Nat} (hI : RI I W H np len) {b : Nat} (hB : RK I W H np b) {i tick : Nat} (hi : i < b) (ht : tick < 96) : jRi w l mX11_at 3 [.ref 1069, .int (nI i), .int (nI tick)] (n, shE, I, L, R) (fun r t => r = oI (pl I i tick) ∧ ∃ J, t = (n, shE, J, L, R) ∧ eqs (upI I 1069 2 0) J) := by
  refine jRi_of hW (by decide) rfl (Nat.le_of_ble_eq_true rfl) ?_
  have hI0 := hI.kp (k0 I)
  have hT := hI0.1.1
  have hz := hT.wh
  have hw3 := hT.2.2.1
  have hw9 := hT.2.2.2.1
  have hh1 := hT.2.2.2.2.1
  have hh7 := hT.2.2.2.2.2
  have hnp := hI0.2.2.2.2.1.2
  have hb12 := hB.2.1
  refine jx_aload_n dX11_at_0 rfl ?_
  refine jx_iconst (v := 0) dX11_at_1 (by decide) ?_
  refine jx_putI dX11_at_2 flX11_187 rfl rfl (fun r h => by cases h; rfl) ?_
  refine jx_aload_n dX11_at_5 rfl ?_
  refine jx_iload_n dX11_at_6 rfl ?_
  refine jx_Vi (as := [.int _]) dX11_at_7 mlX11_470 okX11_isBooked viX11_isBooked rfl rfl rfl rfl rfl (by decide) (Nat.le_of_ble_eq_true rfl) (tX11_isBookedT hW hR (hB.c 0).1 hB.2.1 hi) ?_
  refine jx_ifB_eq 29 dX11_at_10 (by decide) (fun h10 => by cases h10) (fun h10 => ?_)
  refine jx_iload_n dX11_at_13 rfl ?_
  refine jx_Si (as := [.int _]) dX11_at_14 mlX11_445 okX11_isTick stX11_isTick rfl rfl (by decide) (Nat.le_of_ble_eq_true rfl) (tX11_isTickT hW ht) ?_
  refine jx_ifB_eq 29 dX11_at_17 (by decide) (fun h17 => by cases h17) (fun h17 => ?_)
  refine jx_aload_n dX11_at_20 rfl ?_
  refine jx_iload_n dX11_at_21 rfl ?_
  refine jx_iload_n dX11_at_22 rfl ?_
  refine jx_Vi (as := [.int _, .int _]) dX11_at_23 mlX11_473 okX11_placeOf viX11_placeOf rfl rfl rfl rfl rfl (by decide) (Nat.le_of_ble_eq_true rfl) (tX11_placeOf hW hR (hB.c 0) hi ht) ?_
  refine jx_goto 34 dX11_at_26 (by decide) ?_
  refine jx_iret dX11_at_34 rfl ?_
  exact ⟨_, rfl, rfl, _, rfl, eqs_r _⟩
set_option maxHeartbeats 1000000 in
set_option maxRecDepth 20000 in
theorem tX11_bookF (hW : jWok w l) (hR : RS R) {W H np len : Nat} (hI : RI I W H np len) (p day tick : Int32) (hbad : ¬ (ltQ p np = true ∧ dayQ day = true ∧ tickQ tick = true)) : jCD w l mX11_book 3 [.ref 1069, .int p, .int day, .int tick] (n, shE, I, L, R) (some (.int 0)) (n, shE, upI I 1069 2 1, L, R) := by
  refine jCD_of hW (by decide) rfl (Nat.le_of_ble_eq_true rfl) ?_
  have hI0 := hI.kp (k0 I)
  refine jx_aload_n dX11_book_0 rfl ?_
  refine jx_iconst (v := 0) dX11_book_1 (by decide) ?_
  refine jx_putI dX11_book_2 flX11_187 rfl rfl (fun r h => by cases h; rfl) ?_
  refine jx_aload_n dX11_book_5 rfl ?_
  refine jx_iload_n dX11_book_6 rfl ?_
  refine jx_Vi (as := [.int _]) dX11_book_7 mlX11_448 okX11_isParty viX11_isParty rfl rfl rfl rfl rfl (by decide) (Nat.le_of_ble_eq_true rfl) (tX11_isParty hW hR (hI0.2.2.2.2.1.1) hI0.2.2.2.2.1.2 _) ?_
  refine jx_ifB_eq 27 dX11_book_10 (by decide) (fun h10 => ?_) (fun h10 => ?_)
  · refine jx_aload_n dX11_book_27 rfl ?_
    refine jx_iconst (v := 1) dX11_book_28 (by decide) ?_
    refine jx_Vi (as := [.int _]) dX11_book_29 mlX11_351 okX11_fail viX11_fail rfl rfl rfl rfl rfl (by decide) (Nat.le_of_ble_eq_true rfl) (tX11_fail hW _) ?_
    refine jx_iret dX11_book_32 rfl ?_
    exact ⟨rfl, by rw [up_up]⟩
  · refine jx_iload_n dX11_book_13 rfl ?_
    refine jx_Si (as := [.int _]) dX11_book_14 mlX11_438 okX11_isDay stX11_isDay rfl rfl (by decide) (Nat.le_of_ble_eq_true rfl) (tX11_isDay hW _) ?_
    refine jx_ifB_eq 27 dX11_book_17 (by decide) (fun h17 => ?_) (fun h17 => ?_)
    · refine jx_aload_n dX11_book_27 rfl ?_
      refine jx_iconst (v := 1) dX11_book_28 (by decide) ?_
      refine jx_Vi (as := [.int _]) dX11_book_29 mlX11_351 okX11_fail viX11_fail rfl rfl rfl rfl rfl (by decide) (Nat.le_of_ble_eq_true rfl) (tX11_fail hW _) ?_
      refine jx_iret dX11_book_32 rfl ?_
      exact ⟨rfl, by rw [up_up]⟩
    · refine jx_iload_n dX11_book_20 rfl ?_
      refine jx_Si (as := [.int _]) dX11_book_21 mlX11_445 okX11_isTick stX11_isTick rfl rfl (by decide) (Nat.le_of_ble_eq_true rfl) (tX11_isTick hW _) ?_
      refine jx_ifB_ne 33 dX11_book_24 (by decide) (fun h24 => ?_) (fun h24 => ?_)
      · exact absurd ⟨h10, h17, h24⟩ hbad
      · refine jx_aload_n dX11_book_27 rfl ?_
        refine jx_iconst (v := 1) dX11_book_28 (by decide) ?_
        refine jx_Vi (as := [.int _]) dX11_book_29 mlX11_351 okX11_fail viX11_fail rfl rfl rfl rfl rfl (by decide) (Nat.le_of_ble_eq_true rfl) (tX11_fail hW _) ?_
        refine jx_iret dX11_book_32 rfl ?_
        exact ⟨rfl, by rw [up_up]⟩
set_option maxHeartbeats 1000000 in
set_option maxRecDepth 20000 in
theorem tX11_book (hW : jWok w l) (hR : RS R) {W H np len : Nat} (hI : RI I W H np len) {b : Nat} (hB : RK I W H np b) {p day tick : Nat} (hp : p < np) (hd : day ≤ 40) (ht : tick < 96) : jRi w l mX11_book 6 [.ref 1069, .int (nI p), .int (nI day), .int (nI tick)] (n, shE, I, L, R) (fun r t => r = (if arr I W H len day (I 1072 7) p 0 tick = 1000 ∨ cbQ I b p day = false then -1 else nI (b + 1)) ∧ ∃ J, t = (n, shE, J, L, R) ∧ eqs (if arr I W H len day (I 1072 7) p 0 tick = 1000 ∨ cbQ I b p day = false then upI (upI I 1069 2 0) 1083 1 (I 1083 1 + 1) else upI (flo (upI (upI (upI (upI (upI I 1069 2 0) 1094 b (nI p)) 1095 b (nI day)) 1096 b (nI tick)) 1097 b (nI (arr I W H len day (I 1072 7) p 0 tick))) 1098 (96 * b + tick) (wyF I W H len day (I 1072 7) p tick) (arr I W H len day (I 1072 7) p 0 tick - tick + 1)) 1069 32 (nI (b + 1))) J) := by
  refine jRi_of hW (by decide) rfl (Nat.le_of_ble_eq_true rfl) ?_
  have hI0 := hI.kp (k0 I)
  have hT := hI0.1.1
  have hz := hT.wh
  have hw3 := hT.2.2.1
  have hw9 := hT.2.2.2.1
  have hh1 := hT.2.2.2.2.1
  have hh7 := hT.2.2.2.2.2
  have hnp := hI0.2.2.2.2.1.2
  refine jx_aload_n dX11_book_0 rfl ?_
  refine jx_iconst (v := 0) dX11_book_1 (by decide) ?_
  refine jx_putI dX11_book_2 flX11_187 rfl rfl (fun r h => by cases h; rfl) ?_
  refine jx_aload_n dX11_book_5 rfl ?_
  refine jx_iload_n dX11_book_6 rfl ?_
  refine jx_Vi (as := [.int _]) dX11_book_7 mlX11_448 okX11_isParty viX11_isParty rfl rfl rfl rfl rfl (by decide) (Nat.le_of_ble_eq_true rfl) (tX11_isPartyT hW hR (hI0.2.2.2.2.1.1) hI0.2.2.2.2.1.2 hp) ?_
  refine jx_ifB_eq 27 dX11_book_10 (by decide) (fun h10 => by cases h10) (fun h10 => ?_)
  refine jx_iload_n dX11_book_13 rfl ?_
  refine jx_Si (as := [.int _]) dX11_book_14 mlX11_438 okX11_isDay stX11_isDay rfl rfl (by decide) (Nat.le_of_ble_eq_true rfl) (tX11_isDayT hW hd) ?_
  refine jx_ifB_eq 27 dX11_book_17 (by decide) (fun h17 => by cases h17) (fun h17 => ?_)
  refine jx_iload_n dX11_book_20 rfl ?_
  refine jx_Si (as := [.int _]) dX11_book_21 mlX11_445 okX11_isTick stX11_isTick rfl rfl (by decide) (Nat.le_of_ble_eq_true rfl) (tX11_isTickT hW ht) ?_
  refine jx_ifB_ne 33 dX11_book_24 (by decide) (fun h24 => ?_) (fun h24 => by cases h24)
  refine jx_aload_n dX11_book_33 rfl ?_
  refine jx_iload_n dX11_book_34 rfl ?_
  refine jx_iload_n dX11_book_35 rfl ?_
  refine jx_aload_n dX11_book_36 rfl ?_
  refine jx_getR dX11_book_37 flX11_34 rfl rfl (hR _ _ _ rfl) ?_
  refine jx_bipush (v := 7) dX11_book_40 (by decide) ?_
  refine jx_ialdN (7) dX11_book_42 rfl (rfl) (by omega) (by omega) ?_
  refine jx_iconst (v := 0) dX11_book_43 (by decide) ?_
  refine jx_VRv (as := [.int _, .int _, .int _, .int _]) dX11_book_44 mlX11_451 okX11_tellParty viX11_tellParty rfl rfl rfl rfl rfl (by decide) (Nat.le_of_ble_eq_true rfl) (tX11_tellParty (fog := 0) hW hR hI0 hp hd (by omega) _) (fun t44 hq44 => ?_)
  obtain ⟨J1, rfl, he1, hts⟩ := hq44
  have hk1 := kp_t (k0 I) (eqs_kp he1)
  have hJ1 := hI.kp hk1
  have eA : arr (upI I 1069 2 0) W H len day (upI I 1069 2 0 1072 7) p 0 tick = arr I W H len day (I 1072 7) p 0 tick := by rw [arr_kp (k0 I), k0 I 1072 (by omega) (by omega)]
  have hrow := (hI.2.2.2.2.2.1 p hp).2.2.2.1
  have eF : (fun i => nI (wW W H (pcOf (upI I 1069 2 0) p 0) (mP (upI I 1069 2 0) W H len day (upI I 1069 2 0 1072 7) p) (sn W H (pcOf (upI I 1069 2 0) p 0) (mP (upI I 1069 2 0) W H len day (upI I 1069 2 0 1072 7) p)) (arr I W H len day (I 1072 7) p 0 tick) tick (W * cN (I 1079 p)) i).1) = (wyF I W H len day (I 1072 7) p tick) := by
    funext i
    rw [pcOf_kp (k0 I), mP_kp (k0 I), k0 I 1072 (by omega) (by omega)]
    rfl
  have hvb := arr_le I W H len day (I 1072 7) p 0 tick
  have hB1 := (hB.c 0).s he1
  have hbJ := hB1.1
  have ecb : cbQ J1 b p day = cbQ I b p day := cbQ_s he1
  refine jx_aload_n dX11_book_47 rfl ?_
  refine jx_iload_n dX11_book_48 rfl ?_
  refine jx_iload_n dX11_book_49 rfl ?_
  refine jx_Vi (as := [.int _, .int _]) dX11_book_50 mlX11_454 okX11_arrives viX11_arrives rfl rfl rfl rfl rfl (by decide) (Nat.le_of_ble_eq_true rfl) (tX11_arrivesP hW hR hI0 he1 hts hp ht) ?_
  rw [eA]
  refine jx_istore dX11_book_53 (by decide) ?_
  refine jx_iload dX11_book_55 rfl ?_
  refine jx_iconst (v := -1) dX11_book_57 (by decide) ?_
  refine jx_icmp_eq 70 dX11_book_58 (by decide) (fun h58 => ?_) (fun h58 => ?_)
  · refine jx_aload_n dX11_book_70 rfl ?_
    refine jx_iconst (v := 1) dX11_book_71 (by decide) ?_
    refine jx_Vi (as := [.int _]) dX11_book_72 mlX11_467 okX11_refuse viX11_refuse rfl rfl rfl rfl rfl (by decide) (Nat.le_of_ble_eq_true rfl) (tX11_refuse (k := 1) hW hR (by omega)) ?_
    refine jx_iret dX11_book_75 rfl ?_
    have hc : arr I W H len day (I 1072 7) p 0 tick = 1000 ∨ cbQ I b p day = false := by first | exact Or.inl ((aI_m (by omega)).mp h58) | exact Or.inr h67
    refine ⟨_, rfl, ?_, _, rfl, ?_⟩
    · rw [if_pos hc]
    · rw [if_pos hc, show J1 1083 1 = I 1083 1 from (he1 1083 1 (by decide)).trans (upI_nea' (by decide))]
      exact eqs_u2 he1 _ _ _
  · have hv : ¬ arr I W H len day (I 1072 7) p 0 tick = 1000 := fun q => h58 ((aI_m (by omega)).mpr q)
    refine jx_aload_n dX11_book_61 rfl ?_
    refine jx_iload_n dX11_book_62 rfl ?_
    refine jx_iload_n dX11_book_63 rfl ?_
    refine jx_Vi (as := [.int _, .int _]) dX11_book_64 mlX11_464 okX11_canBook viX11_canBook rfl rfl rfl rfl rfl (by decide) (Nat.le_of_ble_eq_true rfl) (tX11_canBook hW hR hJ1 hB1 hp hd) ?_
    rw [ecb]
    refine jx_ifB_ne 76 dX11_book_67 (by decide) (fun h67 => ?_) (fun h67 => ?_)
    · have hcb := h67
      refine jx_aload_n dX11_book_76 rfl ?_
      refine jx_iload_n dX11_book_77 rfl ?_
      refine jx_iload_n dX11_book_78 rfl ?_
      refine jx_Vi (as := [.int _, .int _]) dX11_book_79 mlX11_457 okX11_tellWay viX11_tellWay rfl rfl rfl rfl rfl (by decide) (Nat.le_of_ble_eq_true rfl) (tX11_tellWay hW hR hJ1.1.1 hts (pc_le (fog := 0) hI0 hp (by omega)).1 (pc_le (fog := 0) hI0 hp (by omega)).2 (by omega) ((congrFun (hk1 1079 (by omega) (by omega)) p).trans hrow.1) hrow.2 ht eA hv) ?_
      rw [eF]
      have hvg : tick ≤ arr I W H len day (I 1072 7) p 0 tick := sn_ge (pc_le hI hp (by omega)).1 _ _ _ ht rfl
      have hvl : arr I W H len day (I 1072 7) p 0 tick < 96 := sn_last (pc_le hI hp (by omega)).1 _ _ _ ht rfl hv
      have hb11 : b < 12 := by
        have h12 := hB.2.1
        rcases Nat.lt_or_ge b 12 with z | z
        · exact z
        · have : b = 12 := by omega
          rw [cbQ, decide_eq_true this] at hcb
          simp at hcb
      rw [aI_v hv]
      refine jx_istore dX11_book_82 (by decide) ?_
      refine jx_aload_n dX11_book_84 rfl ?_
      refine jx_getR dX11_book_85 flX11_109 rfl rfl (hR _ _ _ rfl) ?_
      refine jx_aload_n dX11_book_88 rfl ?_
      refine jx_getIE dX11_book_89 flX11_363 rfl rfl ((fl_ne (by decide)).trans hbJ) ?_
      refine jx_iload_n dX11_book_92 rfl ?_
      refine jx_iastN (b) dX11_book_93 rfl (rfl) (by omega) (by omega) ?_
      refine jx_aload_n dX11_book_94 rfl ?_
      refine jx_getR dX11_book_95 flX11_112 rfl rfl (hR _ _ _ rfl) ?_
      refine jx_aload_n dX11_book_98 rfl ?_
      refine jx_getIE dX11_book_99 flX11_363 rfl rfl ((upI_nea' (by decide)).trans ((fl_ne (by decide)).trans hbJ)) ?_
      refine jx_iload_n dX11_book_102 rfl ?_
      refine jx_iastN (b) dX11_book_103 rfl (rfl) (by omega) (by omega) ?_
      refine jx_aload_n dX11_book_104 rfl ?_
      refine jx_getR dX11_book_105 flX11_115 rfl rfl (hR _ _ _ rfl) ?_
      refine jx_aload_n dX11_book_108 rfl ?_
      refine jx_getIE dX11_book_109 flX11_363 rfl rfl ((upI_nea' (by decide)).trans ((upI_nea' (by decide)).trans ((fl_ne (by decide)).trans hbJ))) ?_
      refine jx_iload_n dX11_book_112 rfl ?_
      refine jx_iastN (b) dX11_book_113 rfl (rfl) (by omega) (by omega) ?_
      refine jx_aload_n dX11_book_114 rfl ?_
      refine jx_getR dX11_book_115 flX11_118 rfl rfl (hR _ _ _ rfl) ?_
      refine jx_aload_n dX11_book_118 rfl ?_
      refine jx_getIE dX11_book_119 flX11_363 rfl rfl ((upI_nea' (by decide)).trans ((upI_nea' (by decide)).trans ((upI_nea' (by decide)).trans ((fl_ne (by decide)).trans hbJ)))) ?_
      refine jx_iload dX11_book_122 rfl ?_
      refine jx_iastN (b) dX11_book_124 rfl (rfl) (by omega) (by omega) ?_
      refine jx_iconst (v := 0) dX11_book_125 (by decide) ?_
      refine jx_istore dX11_book_126 (by decide) ?_
      have key : ∀ k, k ≤ (arr I W H len day (I 1072 7) p 0 tick - tick + 1) → jWP w l mX11_book 6 0 0 (fun v t => ∃ r, v = some (.int r) ∧ (fun r t => r = (if arr I W H len day (I 1072 7) p 0 tick = 1000 ∨ cbQ I b p day = false then -1 else nI (b + 1)) ∧ ∃ J, t = (n, shE, J, L, R) ∧ eqs (if arr I W H len day (I 1072 7) p 0 tick = 1000 ∨ cbQ I b p day = false then upI (upI I 1069 2 0) 1083 1 (I 1083 1 + 1) else upI (flo (upI (upI (upI (upI (upI I 1069 2 0) 1094 b (nI p)) 1095 b (nI day)) 1096 b (nI tick)) 1097 b (nI (arr I W H len day (I 1072 7) p 0 tick))) 1098 (96 * b + tick) (wyF I W H len day (I 1072 7) p tick) (arr I W H len day (I 1072 7) p 0 tick - tick + 1)) 1069 32 (nI (b + 1))) J) r t) (fun _ _ => False) 128 [(0, .ref 1069), (1, .int (nI p)), (2, .int (nI day)), (3, .int (nI tick)), (4, .int (nI (arr I W H len day (I 1072 7) p 0 tick))), (5, .int (nI (arr I W H len day (I 1072 7) p 0 tick - tick + 1))), (6, .int (nI k))] [] (n, shE, flo (upI (upI (upI (upI (fl J1 1093 (wyF I W H len day (I 1072 7) p tick) (arr I W H len day (I 1072 7) p 0 tick - tick + 1)) 1094 b (nI p)) 1095 b (nI day)) 1096 b (nI tick)) 1097 b (nI (arr I W H len day (I 1072 7) p 0 tick))) 1098 (96 * b + tick) (wyF I W H len day (I 1072 7) p tick) k, L, R) := by
        refine jdown _ (fun k hk ih => ?_)
        refine jx_iload dX11_book_128 rfl ?_
        refine jx_iload dX11_book_130 rfl ?_
        refine jx_icmpN_ge (a := k) (b := ((arr I W H len day (I 1072 7) p 0 tick - tick + 1))) 165 dX11_book_132 (by decide) (by omega) (by omega) (fun h132 => ?_) (fun h132 => ?_)
        · refine jx_aload_n dX11_book_165 rfl ?_
          refine jx_dup dX11_book_166 rfl ?_
          refine jx_getIE dX11_book_167 flX11_363 rfl rfl ((flo_ne (by decide)).trans ((upI_nea' (by decide)).trans ((upI_nea' (by decide)).trans ((upI_nea' (by decide)).trans ((upI_nea' (by decide)).trans ((fl_ne (by decide)).trans hbJ)))))) ?_
          refine jx_iconst (v := 1) dX11_book_170 (by decide) ?_
          refine jx_iaddE (z := nI (b + 1)) dX11_book_171 (nI_add b 1) ?_
          refine jx_putI dX11_book_172 flX11_363 rfl rfl (fun r h => by cases h; rfl) ?_
          refine jx_aload_n dX11_book_175 rfl ?_
          refine jx_getIE dX11_book_176 flX11_363 rfl rfl (upI_s) ?_
          refine jx_iret dX11_book_179 rfl ?_
          have hkN : k = (arr I W H len day (I 1072 7) p 0 tick - tick + 1) := by omega
          subst hkN
          refine ⟨_, rfl, ?_, _, rfl, ?_⟩
          · rw [if_neg (fun z => z.elim hv (fun y => by rw [hcb] at y; cases y))]
          · rw [if_neg (fun z => z.elim hv (fun y => by rw [hcb] at y; cases y))]
            exact eqs_u2 (eqs_o2 (eqs_u2 (eqs_u2 (eqs_u2 (eqs_u2 (eqs_fs he1 (scrA (by decide) (by decide))) _ _ _) _ _ _) _ _ _) _ _ _) _ _ _ _) _ _ _
        · refine jx_aload_n dX11_book_135 rfl ?_
          refine jx_getR dX11_book_136 flX11_121 rfl rfl (hR _ _ _ rfl) ?_
          refine jx_bipush (v := 96) dX11_book_139 (by decide) ?_
          refine jx_aload_n dX11_book_141 rfl ?_
          refine jx_getIE dX11_book_142 flX11_363 rfl rfl ((flo_ne (by decide)).trans ((upI_nea' (by decide)).trans ((upI_nea' (by decide)).trans ((upI_nea' (by decide)).trans ((upI_nea' (by decide)).trans ((fl_ne (by decide)).trans hbJ)))))) ?_
          refine jx_imulE (z := nI (96 * b)) dX11_book_145 (pk_mul 96 b) ?_
          refine jx_iload_n dX11_book_146 rfl ?_
          refine jx_iaddE (z := nI ((96 * b) + tick)) dX11_book_147 (nI_add (96 * b) tick) ?_
          refine jx_iload dX11_book_148 rfl ?_
          refine jx_iaddE (z := nI (((96 * b) + tick) + k)) dX11_book_150 (nI_add ((96 * b) + tick) k) ?_
          refine jx_aload_n dX11_book_151 rfl ?_
          refine jx_getR dX11_book_152 flX11_103 rfl rfl (hR _ _ _ rfl) ?_
          refine jx_iload dX11_book_155 rfl ?_
          refine jx_ialdE (k) dX11_book_157 rfl (rfl) (by omega) (by omega) ((flo_ne (by decide)).trans ((upI_nea' (by decide)).trans ((upI_nea' (by decide)).trans ((upI_nea' (by decide)).trans ((upI_nea' (by decide)).trans (fl_in h132)))))) ?_
          refine jx_iastN (((96 * b) + tick) + k) dX11_book_158 rfl (rfl) (by omega) (by omega) ?_
          refine jx_iinc dX11_book_159 rfl (v := nI (k + 1)) (nI_1 _) (by decide) ?_
          refine jx_goto 128 dX11_book_162 (by decide) ?_
          rw [flo_s (upI (upI (upI (upI (fl J1 1093 (wyF I W H len day (I 1072 7) p tick) (arr I W H len day (I 1072 7) p 0 tick - tick + 1)) 1094 b (nI p)) 1095 b (nI day)) 1096 b (nI tick)) 1097 b (nI (arr I W H len day (I 1072 7) p 0 tick))) 1098 (96 * b + tick) (wyF I W H len day (I 1072 7) p tick) k]
          exact jx_ls (by exact ⟨rfl, rfl, rfl, rfl, rfl, rfl, rfl, trivial⟩) (ih h132)
      have k0 := key 0 (by omega)
      rw [flo_0] at k0
      exact jx_ls (by exact ⟨rfl, rfl, rfl, rfl, rfl, rfl, rfl, trivial⟩) k0
    · refine jx_aload_n dX11_book_70 rfl ?_
      refine jx_iconst (v := 1) dX11_book_71 (by decide) ?_
      refine jx_Vi (as := [.int _]) dX11_book_72 mlX11_467 okX11_refuse viX11_refuse rfl rfl rfl rfl rfl (by decide) (Nat.le_of_ble_eq_true rfl) (tX11_refuse (k := 1) hW hR (by omega)) ?_
      refine jx_iret dX11_book_75 rfl ?_
      have hc : arr I W H len day (I 1072 7) p 0 tick = 1000 ∨ cbQ I b p day = false := by first | exact Or.inl ((aI_m (by omega)).mp h58) | exact Or.inr h67
      refine ⟨_, rfl, ?_, _, rfl, ?_⟩
      · rw [if_pos hc]
      · rw [if_pos hc, show J1 1083 1 = I 1083 1 from (he1 1083 1 (by decide)).trans (upI_nea' (by decide))]
        exact eqs_u2 he1 _ _ _
end RK2
