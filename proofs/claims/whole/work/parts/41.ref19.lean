/-! THE REFERENCE: the queue -/
theorem bor_all : ∀ a : Fin 64, ∀ p : Fin 6, ∀ i : Fin 6, (a.1 ||| (1 <<< p.1)).testBit i.1 = (a.1.testBit i.1 || decide (i.1 = p.1)) := by decide +kernel
theorem ior_all : ∀ a : Fin 64, ∀ b : Fin 64, (Int32.ofNat a.1 ||| Int32.ofNat b.1) = Int32.ofNat (a.1 ||| b.1) ∧ (a.1 ||| b.1) < 64 := by decide +kernel
theorem iand_all : ∀ a : Fin 64, ∀ b : Fin 64, (Int32.ofNat a.1 &&& Int32.ofNat b.1) = Int32.ofNat (a.1 &&& b.1) ∧ (a.1 &&& b.1) < 64 := by decide +kernel
def qOk (I : Nat → Nat → Int32) (W H len d p onDay : Nat) : Bool := cnD I W H len p d && !decide (pc6 onDay = cN (I 1072 8)) && decide (cN (I 1081 p) &&& onDay = 0)
def qIn (I : Nat → Nat → Int32) (W H np len d : Nat) : Nat → Nat → Nat → Nat
  | 0, _, onDay => onDay
  | r + 1, looked, onDay => match hst I looked np with
    | none => onDay
    | some p => qIn I W H np len d r (looked ||| (1 <<< p)) (if qOk I W H len d p onDay = true then onDay ||| (1 <<< p) else onDay)
def qDone (I : Nat → Nat → Int32) (W H np len : Nat) : Nat → Nat
  | 0 => 0
  | d + 1 => qDone I W H np len d ||| qIn I W H np len d 6 (qDone I W H np len d) 0
def qDay (I : Nat → Nat → Int32) (W H np len d : Nat) : Nat := qIn I W H np len d 6 (qDone I W H np len d) 0
def qAt (I : Nat → Nat → Int32) (W H np len q d : Nat) : Bool := (qDay I W H np len d).testBit q
def unl (looked np : Nat) : Nat := cntN (fun i => !(looked.testBit i)) np
theorem cntN_lt {f g : Nat → Bool} {p : Nat} : ∀ {n : Nat}, (∀ i, i < n → g i = true → f i = true) → p < n → f p = true → g p = false → cntN g n < cntN f n
  | 0, _, h, _, _ => by omega
  | n + 1, h, hp, h1, h2 => by
    have hle : ∀ k, k ≤ n + 1 → cntN g k ≤ cntN f k := by
      intro k
      induction k with
      | zero => intro _; exact Nat.le_refl _
      | succ k ih =>
        intro hk
        have := ih (by omega)
        show cntN g k + (if g k = true then 1 else 0) ≤ cntN f k + (if f k = true then 1 else 0)
        by_cases e : g k = true
        · rw [if_pos e, if_pos (h k (by omega) e)]; omega
        · rw [if_neg e]; omega
    show cntN g n + (if g n = true then 1 else 0) < cntN f n + (if f n = true then 1 else 0)
    by_cases e : p = n
    · subst e
      rw [if_pos h1, if_neg (by rw [h2]; decide)]
      have := hle p (by omega)
      omega
    · have := cntN_lt (n := n) (fun i hi => h i (by omega)) (by omega) h1 h2
      by_cases e2 : g n = true
      · rw [if_pos e2, if_pos (h n (by omega) e2)]; omega
      · rw [if_neg e2]; omega
theorem hst_none {I : Nat → Nat → Int32} {but : Nat} : ∀ k, cntN (fun i => !(but.testBit i)) k = 0 → hst I but k = none
  | 0, _ => rfl
  | k + 1, h => by
    change cntN (fun i => !(but.testBit i)) k + (if (!(but.testBit k)) = true then 1 else 0) = 0 at h
    have h1 : but.testBit k = true := by
      cases hb : but.testBit k with
      | true => rfl
      | false => rw [hb] at h; simp at h
    show (if but.testBit k = true then hst I but k else _) = none
    rw [if_pos h1]
    exact hst_none k (by omega)
theorem unl_lt {looked p np : Nat} (hl : looked < 64) (hn : np ≤ 6) (hp : p < np) (hb : looked.testBit p = false) : unl (looked ||| (1 <<< p)) np < unl looked np := by
  refine cntN_lt (p := p) (fun i hi h => ?_) hp (by rw [hb]; rfl) ?_
  · have := bor_all ⟨looked, hl⟩ ⟨p, by omega⟩ ⟨i, by omega⟩
    simp only at this
    rw [this] at h
    cases hx : looked.testBit i with
    | false => rfl
    | true => rw [hx] at h; simp at h
  · have := bor_all ⟨looked, hl⟩ ⟨p, by omega⟩ ⟨p, by omega⟩
    simp only at this
    rw [this]
    simp
theorem qIn_lt {I : Nat → Nat → Int32} {W H np len d : Nat} (hn : np ≤ 6) : ∀ r looked onDay, looked < 64 → onDay < 64 → qIn I W H np len d r looked onDay < 64
  | 0, _, _, _, h => h
  | r + 1, looked, onDay, hl, h => by
    unfold qIn
    cases hx : hst I looked np with
    | none => exact h
    | some p =>
      have hp := (hst_lt hx).1
      refine qIn_lt hn r _ _ (or_all ⟨looked, hl⟩ ⟨p, by omega⟩).2 ?_
      split
      · exact (or_all ⟨onDay, h⟩ ⟨p, by omega⟩).2
      · exact h
theorem qDone_lt {I : Nat → Nat → Int32} {W H np len : Nat} (hn : np ≤ 6) : ∀ d, qDone I W H np len d < 64
  | 0 => by show (0 : Nat) < 64; omega
  | d + 1 => (ior_all ⟨_, qDone_lt hn d⟩ ⟨_, qIn_lt hn 6 _ 0 (qDone_lt hn d) (by omega)⟩).2
theorem qIn_new {I : Nat → Nat → Int32} {W H np len d q : Nat} (hn : np ≤ 6) (hq : q < 6) : ∀ r looked onDay, looked < 64 → onDay < 64 → (qIn I W H np len d r looked onDay).testBit q = true → onDay.testBit q = true ∨ looked.testBit q = false
  | 0, _, _, _, _, h => Or.inl h
  | r + 1, looked, onDay, hl, ho, h => by
    unfold qIn at h
    cases hx : hst I looked np with
    | none => rw [hx] at h; exact Or.inl h
    | some p =>
      rw [hx] at h
      simp only at h
      have hp := hst_lt hx
      have b1 := or_all ⟨looked, hl⟩ ⟨p, by omega⟩
      have b2 := or_all ⟨onDay, ho⟩ ⟨p, by omega⟩
      have c1 := bor_all ⟨looked, hl⟩ ⟨p, by omega⟩ ⟨q, hq⟩
      have c2 := bor_all ⟨onDay, ho⟩ ⟨p, by omega⟩ ⟨q, hq⟩
      simp only at b1 b2 c1 c2
      by_cases e : q = p
      · subst e; exact Or.inr hp.2
      · have hk := qIn_new hn hq r (looked ||| (1 <<< p)) _ b1.2 (by split; exact b2.2; exact ho) h
        rcases hk with z | z
        · split at z
          · rw [c2, decide_eq_false e, Bool.or_false] at z; exact Or.inl z
          · exact Or.inl z
        · rw [c1, decide_eq_false e, Bool.or_false] at z; exact Or.inr z
theorem bor2 (a b q : Nat) : (a ||| b).testBit q = (a.testBit q || b.testBit q) := Nat.testBit_or a b q
theorem qDone_iff {I : Nat → Nat → Int32} {W H np len q : Nat} : ∀ d, (qDone I W H np len d).testBit q = anyN (qAt I W H np len q) d
  | 0 => Nat.zero_testBit q
  | d + 1 => by
    show (qDone I W H np len d ||| qDay I W H np len d).testBit q = (anyN (qAt I W H np len q) d || qAt I W H np len q d)
    rw [bor2, qDone_iff d]
    rfl
theorem qAt_new {I : Nat → Nat → Int32} {W H np len q : Nat} (hn : np ≤ 6) (hq : q < 6) {d : Nat} (h : qAt I W H np len q d = true) : fnd (qAt I W H np len q) d = none := by
  have hk := qIn_new hn hq 6 (qDone I W H np len d) 0 (qDone_lt hn d) (by omega) h
  rw [Nat.zero_testBit] at hk
  have h2 : (qDone I W H np len d).testBit q = false := hk.resolve_left (by decide)
  rw [qDone_iff] at h2
  exact fnd_none.mpr (anyN_f.mp h2)
theorem hst_kp {I J : Nat → Nat → Int32} (h : kp I J) (but : Nat) : ∀ k, hst J but k = hst I but k
  | 0 => rfl
  | k + 1 => by
    unfold hst
    rw [hst_kp h but k, h 1080 (by omega) (by omega)]
theorem qOk_kp {I J : Nat → Nat → Int32} (h : kp I J) (W H len d p onDay : Nat) : qOk J W H len d p onDay = qOk I W H len d p onDay := by
  unfold qOk; rw [cnD_kp h, h 1072 (by omega) (by omega), h 1081 (by omega) (by omega)]
theorem qIn_kp {I J : Nat → Nat → Int32} (h : kp I J) (W H np len d : Nat) : ∀ r looked onDay, qIn J W H np len d r looked onDay = qIn I W H np len d r looked onDay
  | 0, _, _ => rfl
  | r + 1, looked, onDay => by
    unfold qIn
    rw [hst_kp h]
    cases hst I looked np with
    | none => rfl
    | some p => simp only; rw [qOk_kp h, qIn_kp h W H np len d r]
theorem qDone_kp {I J : Nat → Nat → Int32} (h : kp I J) (W H np len : Nat) : ∀ d, qDone J W H np len d = qDone I W H np len d
  | 0 => rfl
  | d + 1 => by
    unfold qDone
    rw [qDone_kp h W H np len d, qIn_kp h]
theorem qAt_kp {I J : Nat → Nat → Int32} (h : kp I J) (W H np len q : Nat) : qAt J W H np len q = qAt I W H np len q := by
  funext d; unfold qAt qDay; rw [qDone_kp h, qIn_kp h]
section RS2
variable {w : jWD} {l : Launch} {n : Nat} {I J : Nat → Nat → Int32} {L : Nat → Nat → Int64} {R : Nat → Nat → Option Nat}

set_option maxHeartbeats 1000000 in
set_option maxRecDepth 20000 in
theorem tX11_tellQueue (hW : jWok w l) (hR : RS R) {W H np len : Nat} (hI : RI I W H np len) : jRv w l mX11_tellQueue 7 [.ref 1069] (n, shE, I, L, R) (fun t => ∃ K, t = (n, shE, K, L, R) ∧ eqs I K ∧ ∀ q, q < np → K 1101 q = oI (fnd (qAt I W H np len q) 41)) := by
  refine jRv_of hW (by decide) rfl (Nat.le_of_ble_eq_true rfl) ?_
  have hnp := hI.2.2.2.2.1.2
  have he8 := hI.2.2.2.1.2.1
  have key34 : ∀ d, d ≤ 41 → ∀ K, eqs I K → DYs I K W H len (41 * np) → (∀ q, q < np → K 1101 q = oI (fnd (qAt I W H np len q) d)) → jWP w l mX11_tellQueue 7 0 0 (fun v t => v = none ∧ (fun t => ∃ K, t = (n, shE, K, L, R) ∧ eqs I K ∧ ∀ q, q < np → K 1101 q = oI (fnd (qAt I W H np len q) 41)) t) (fun _ _ => False) 34 [(0, .ref 1069), (1, .int (nI (qDone I W H np len d))), (2, .int (nI d))] [] (n, shE, K, L, R) := by
    refine jdown _ (fun d hd ih => ?_)
    have hdl := qDone_lt (I := I) (W := W) (H := H) (np := np) (len := len) hnp d
    have key53 : d < 41 → ∀ r looked onDay K, unl looked np ≤ r → looked < 64 → onDay < 64 → qIn I W H np len d r looked onDay = qDay I W H np len d → eqs I K → DYs I K W H len (41 * np) → (∀ q, q < np → K 1101 q = if onDay.testBit q = true then nI d else oI (fnd (qAt I W H np len q) d)) → jWP w l mX11_tellQueue 7 0 0 (fun v t => v = none ∧ (fun t => ∃ K, t = (n, shE, K, L, R) ∧ eqs I K ∧ ∀ q, q < np → K 1101 q = oI (fnd (qAt I W H np len q) 41)) t) (fun _ _ => False) 53 [(0, .ref 1069), (1, .int (nI (qDone I W H np len d))), (2, .int (nI d)), (3, .int (nI onDay)), (4, .int (nI looked)), (5, .int (oI (hst I looked np)))] [] (n, shE, K, L, R) := by
      intro hd41 r
      induction r with
      | zero =>
        intro looked onDay K hu hl ho hq he hdy hk
        have hn : hst I looked np = none := hst_none np (by unfold unl at hu; omega)
        have hq2 : onDay = qDay I W H np len d := hq
        rw [hn]
        show jWP w l mX11_tellQueue 7 0 0 (fun v t => v = none ∧ (fun t => ∃ K, t = (n, shE, K, L, R) ∧ eqs I K ∧ ∀ q, q < np → K 1101 q = oI (fnd (qAt I W H np len q) 41)) t) (fun _ _ => False) 53 [(0, .ref 1069), (1, .int (nI (qDone I W H np len d))), (2, .int (nI d)), (3, .int (nI onDay)), (4, .int (nI looked)), (5, .int (-1))] [] (n, shE, K, L, R)
        refine jx_iload dX11_tellQueue_53 rfl ?_
        refine jx_iconst (v := -1) dX11_tellQueue_55 (by decide) ?_
        refine jx_icmp_eq 138 dX11_tellQueue_56 (by decide) (fun h56 => ?_) (fun h56 => ?_)
        · refine jx_iload_n dX11_tellQueue_138 rfl ?_
          refine jx_iload_n dX11_tellQueue_139 rfl ?_
          refine jx_iorE (z := nI (qDone I W H np len (d + 1))) dX11_tellQueue_140 (by rw [show qDone I W H np len (d + 1) = qDone I W H np len d ||| onDay from by rw [hq2]; rfl]; exact (ior_all ⟨_, hdl⟩ ⟨onDay, ho⟩).1) ?_
          refine jx_istore_n dX11_tellQueue_141 rfl (by decide) ?_
          refine jx_iinc dX11_tellQueue_142 rfl (v := nI (d + 1)) (nI_1 _) (by decide) ?_
          refine jx_goto 34 dX11_tellQueue_145 (by decide) ?_
          refine jx_ls (by exact ⟨rfl, rfl, rfl, trivial⟩) (ih hd41 K he hdy (fun q hq3 => ?_))
          rw [hk q hq3, hq2]
          by_cases e : (qDay I W H np len d).testBit q = true
          · rw [if_pos e, show fnd (qAt I W H np len q) (d + 1) = some d from fnd_some.mpr ⟨by omega, e, fnd_none.mp (qAt_new hnp (by omega) e)⟩]
            rfl
          · rw [if_neg e]
            show _ = oI (match fnd (qAt I W H np len q) d with | some t => some t | none => if (qDay I W H np len d).testBit q = true then some d else none)
            rw [if_neg e]
            cases fnd (qAt I W H np len q) d <;> rfl
        · exact absurd rfl h56
      | succ r ihr =>
        intro looked onDay K hu hl ho hq he hdy hk
        have hkp := eqs_kp he
        unfold qIn at hq
        cases hx : hst I looked np with
        | none =>
          rw [hx] at hq
          have hq2 : onDay = qDay I W H np len d := hq
          show jWP w l mX11_tellQueue 7 0 0 (fun v t => v = none ∧ (fun t => ∃ K, t = (n, shE, K, L, R) ∧ eqs I K ∧ ∀ q, q < np → K 1101 q = oI (fnd (qAt I W H np len q) 41)) t) (fun _ _ => False) 53 [(0, .ref 1069), (1, .int (nI (qDone I W H np len d))), (2, .int (nI d)), (3, .int (nI onDay)), (4, .int (nI looked)), (5, .int (-1))] [] (n, shE, K, L, R)
          refine jx_iload dX11_tellQueue_53 rfl ?_
          refine jx_iconst (v := -1) dX11_tellQueue_55 (by decide) ?_
          refine jx_icmp_eq 138 dX11_tellQueue_56 (by decide) (fun h56 => ?_) (fun h56 => ?_)
          · refine jx_iload_n dX11_tellQueue_138 rfl ?_
            refine jx_iload_n dX11_tellQueue_139 rfl ?_
            refine jx_iorE (z := nI (qDone I W H np len (d + 1))) dX11_tellQueue_140 (by rw [show qDone I W H np len (d + 1) = qDone I W H np len d ||| onDay from by rw [hq2]; rfl]; exact (ior_all ⟨_, hdl⟩ ⟨onDay, ho⟩).1) ?_
            refine jx_istore_n dX11_tellQueue_141 rfl (by decide) ?_
            refine jx_iinc dX11_tellQueue_142 rfl (v := nI (d + 1)) (nI_1 _) (by decide) ?_
            refine jx_goto 34 dX11_tellQueue_145 (by decide) ?_
            refine jx_ls (by exact ⟨rfl, rfl, rfl, trivial⟩) (ih hd41 K he hdy (fun q hq3 => ?_))
            rw [hk q hq3, hq2]
            by_cases e : (qDay I W H np len d).testBit q = true
            · rw [if_pos e, show fnd (qAt I W H np len q) (d + 1) = some d from fnd_some.mpr ⟨by omega, e, fnd_none.mp (qAt_new hnp (by omega) e)⟩]
              rfl
            · rw [if_neg e]
              show _ = oI (match fnd (qAt I W H np len q) d with | some t => some t | none => if (qDay I W H np len d).testBit q = true then some d else none)
              rw [if_neg e]
              cases fnd (qAt I W H np len q) d <;> rfl
          · exact absurd rfl h56
        | some p =>
          rw [hx] at hq
          simp only at hq
          have hp0 := (hst_lt hx).1
          show jWP w l mX11_tellQueue 7 0 0 (fun v t => v = none ∧ (fun t => ∃ K, t = (n, shE, K, L, R) ∧ eqs I K ∧ ∀ q, q < np → K 1101 q = oI (fnd (qAt I W H np len q) 41)) t) (fun _ _ => False) 53 [(0, .ref 1069), (1, .int (nI (qDone I W H np len d))), (2, .int (nI d)), (3, .int (nI onDay)), (4, .int (nI looked)), (5, .int (nI p))] [] (n, shE, K, L, R)
          refine jx_iload dX11_tellQueue_53 rfl ?_
          refine jx_iconst (v := -1) dX11_tellQueue_55 (by decide) ?_
          refine jx_icmp_eq 138 dX11_tellQueue_56 (by decide) (fun h56 => ?_) (fun h56 => ?_)
          · exfalso
            have e2 := congrArg Int32.toInt h56
            rw [nI_toInt (by omega), show (-1 : Int32).toInt = -1 from by decide] at e2
            omega
          · have hp6 := hst_lt hx
            have hqf := (hI.2.2.2.2.2.1 p hp6.1).2.2.2.2.2
            have b1 : looked ||| (1 <<< p) < 64 := (or_all ⟨looked, hl⟩ ⟨p, by omega⟩).2
            have hul := unl_lt hl hnp hp6.1 hp6.2
            refine jx_iload dX11_tellQueue_59 rfl ?_
            refine jx_iconst (v := 1) dX11_tellQueue_61 (by decide) ?_
            refine jx_iload dX11_tellQueue_62 rfl ?_
            refine jx_ishl dX11_tellQueue_64 ?_
            refine jx_iorE (z := nI (looked ||| (1 <<< p))) dX11_tellQueue_65 ((or_all ⟨looked, hl⟩ ⟨p, by omega⟩).1) ?_
            refine jx_istore dX11_tellQueue_66 (by decide) ?_
            refine jx_aload_n dX11_tellQueue_68 rfl ?_
            refine jx_getR dX11_tellQueue_69 flX11_124 rfl rfl (hR _ _ _ rfl) ?_
            refine jx_bipush (v := 41) dX11_tellQueue_72 (by decide) ?_
            refine jx_iload dX11_tellQueue_74 rfl ?_
            refine jx_imulE (z := nI (41 * p)) dX11_tellQueue_76 (pk_mul 41 p) ?_
            refine jx_iload_n dX11_tellQueue_77 rfl ?_
            refine jx_iaddE (z := nI ((41 * p) + d)) dX11_tellQueue_78 (nI_add (41 * p) d) ?_
            refine jx_zaldE ((41 * p) + d) dX11_tellQueue_79 rfl (rfl) (by omega) (by omega) ((hdy p d (by omega) (by omega)).1) ?_
            refine jx_ifB_eq 127 dX11_tellQueue_80 (by decide) (fun h80 => ?_) (fun h80 => ?_)
            · refine jx_aload_n dX11_tellQueue_127 rfl ?_
              refine jx_iload dX11_tellQueue_128 rfl ?_
              refine jx_Vi (as := [.int _]) dX11_tellQueue_130 mlX11_494 okX11_hastiest viX11_hastiest rfl rfl rfl rfl rfl (by decide) (Nat.le_of_ble_eq_true rfl) (tX11_hastiest hW hR hI (eqs_kp (by first | exact he | exact eqs_u he (scrA (by decide) (by decide) _))) b1) ?_
              refine jx_istore dX11_tellQueue_133 (by decide) ?_
              refine jx_goto 53 dX11_tellQueue_135 (by decide) ?_
              have hok : qOk I W H len d p onDay = false := by
                unfold qOk
                first | (rw [h80]; rfl) | (rw [decide_eq_true h94, Bool.not_true, Bool.and_false]; rfl) | (rw [decide_eq_false h106, Bool.and_false])
              rw [hok, if_neg (by decide)] at hq
              exact jx_ls (by exact ⟨rfl, rfl, rfl, rfl, rfl, rfl, trivial⟩) (ihr (looked ||| (1 <<< p)) onDay _ (by omega) b1 ho hq he hdy hk)
            · refine jx_iload_n dX11_tellQueue_83 rfl ?_
              refine jx_Si (as := [.int _]) dX11_tellQueue_84 mlX11_482 okX11_bitsOf stX11_bitsOf rfl rfl (by decide) (Nat.le_of_ble_eq_true rfl) (tX11_bitsOf hW ho _) ?_
              refine jx_aload_n dX11_tellQueue_87 rfl ?_
              refine jx_getR dX11_tellQueue_88 flX11_34 rfl rfl (hR _ _ _ rfl) ?_
              refine jx_bipush (v := 8) dX11_tellQueue_91 (by decide) ?_
              refine jx_ialdE (8) dX11_tellQueue_93 rfl (rfl) (by omega) (by omega) ((congrFun (hkp 1072 (by omega) (by omega)) 8).trans he8.1) ?_
              have hpc := pc6_le onDay
              refine jx_icmpN_eq (a := (pc6 onDay)) (b := (cN (I 1072 8))) 127 dX11_tellQueue_94 (by decide) (by omega) (by omega) (fun h94 => ?_) (fun h94 => ?_)
              · refine jx_aload_n dX11_tellQueue_127 rfl ?_
                refine jx_iload dX11_tellQueue_128 rfl ?_
                refine jx_Vi (as := [.int _]) dX11_tellQueue_130 mlX11_494 okX11_hastiest viX11_hastiest rfl rfl rfl rfl rfl (by decide) (Nat.le_of_ble_eq_true rfl) (tX11_hastiest hW hR hI (eqs_kp (by first | exact he | exact eqs_u he (scrA (by decide) (by decide) _))) b1) ?_
                refine jx_istore dX11_tellQueue_133 (by decide) ?_
                refine jx_goto 53 dX11_tellQueue_135 (by decide) ?_
                have hok : qOk I W H len d p onDay = false := by
                  unfold qOk
                  first | (rw [h80]; rfl) | (rw [decide_eq_true h94, Bool.not_true, Bool.and_false]; rfl) | (rw [decide_eq_false h106, Bool.and_false])
                rw [hok, if_neg (by decide)] at hq
                exact jx_ls (by exact ⟨rfl, rfl, rfl, rfl, rfl, rfl, trivial⟩) (ihr (looked ||| (1 <<< p)) onDay _ (by omega) b1 ho hq he hdy hk)
              · refine jx_aload_n dX11_tellQueue_97 rfl ?_
                refine jx_getR dX11_tellQueue_98 flX11_62 rfl rfl (hR _ _ _ rfl) ?_
                refine jx_iload dX11_tellQueue_101 rfl ?_
                refine jx_ialdE (p) dX11_tellQueue_103 rfl (rfl) (by omega) (by omega) ((congrFun (hkp 1081 (by omega) (by omega)) p).trans hqf.1) ?_
                refine jx_iload_n dX11_tellQueue_104 rfl ?_
                refine jx_iandE (z := nI (cN (I 1081 p) &&& onDay)) dX11_tellQueue_105 ((iand_all ⟨_, hqf.2⟩ ⟨onDay, ho⟩).1) ?_
                have hia := (iand_all ⟨_, hqf.2⟩ ⟨onDay, ho⟩).2
                simp only at hia
                refine jx_ifN_eq (a := (cN (I 1081 p) &&& onDay)) 112 dX11_tellQueue_106 (by decide) (by omega) (fun h106 => ?_) (fun h106 => ?_)
                · refine jx_iload_n dX11_tellQueue_112 rfl ?_
                  refine jx_iconst (v := 1) dX11_tellQueue_113 (by decide) ?_
                  refine jx_iload dX11_tellQueue_114 rfl ?_
                  refine jx_ishl dX11_tellQueue_116 ?_
                  refine jx_iorE (z := nI (onDay ||| (1 <<< p))) dX11_tellQueue_117 ((or_all ⟨onDay, ho⟩ ⟨p, by omega⟩).1) ?_
                  refine jx_istore_n dX11_tellQueue_118 rfl (by decide) ?_
                  refine jx_aload_n dX11_tellQueue_119 rfl ?_
                  refine jx_getR dX11_tellQueue_120 flX11_130 rfl rfl (hR _ _ _ rfl) ?_
                  refine jx_iload dX11_tellQueue_123 rfl ?_
                  refine jx_iload_n dX11_tellQueue_125 rfl ?_
                  refine jx_iastN (p) dX11_tellQueue_126 rfl (rfl) (by omega) (by omega) ?_
                  refine jx_aload_n dX11_tellQueue_127 rfl ?_
                  refine jx_iload dX11_tellQueue_128 rfl ?_
                  refine jx_Vi (as := [.int _]) dX11_tellQueue_130 mlX11_494 okX11_hastiest viX11_hastiest rfl rfl rfl rfl rfl (by decide) (Nat.le_of_ble_eq_true rfl) (tX11_hastiest hW hR hI (eqs_kp (by first | exact he | exact eqs_u he (scrA (by decide) (by decide) _))) b1) ?_
                  refine jx_istore dX11_tellQueue_133 (by decide) ?_
                  refine jx_goto 53 dX11_tellQueue_135 (by decide) ?_
                  have hok : qOk I W H len d p onDay = true := by
                    unfold qOk
                    rw [h80, decide_eq_false h94, decide_eq_true h106]; rfl
                  rw [hok, if_pos rfl] at hq
                  refine jx_ls (by exact ⟨rfl, rfl, rfl, rfl, rfl, rfl, trivial⟩) (ihr (looked ||| (1 <<< p)) (onDay ||| (1 <<< p)) _ (by omega) b1 (or_all ⟨onDay, ho⟩ ⟨p, by omega⟩).2 hq (eqs_u he (scrA (by decide) (by decide) _)) (fun p' d' h1 h2 => ?_) (fun q hq3 => ?_))
                  · rw [upI_nea' (by decide), upI_nea' (by decide)]; exact hdy p' d' h1 h2
                  · have c2 := bor_all ⟨onDay, ho⟩ ⟨p, by omega⟩ ⟨q, by omega⟩
                    simp only at c2
                    rw [c2]
                    by_cases e : q = p
                    · subst e; rw [upI_s, decide_eq_true rfl, Bool.or_true, if_pos rfl]
                    · rw [upI_j e, decide_eq_false e, Bool.or_false]; exact hk q hq3
                · refine jx_goto 127 dX11_tellQueue_109 (by decide) ?_
                  refine jx_aload_n dX11_tellQueue_127 rfl ?_
                  refine jx_iload dX11_tellQueue_128 rfl ?_
                  refine jx_Vi (as := [.int _]) dX11_tellQueue_130 mlX11_494 okX11_hastiest viX11_hastiest rfl rfl rfl rfl rfl (by decide) (Nat.le_of_ble_eq_true rfl) (tX11_hastiest hW hR hI (eqs_kp (by first | exact he | exact eqs_u he (scrA (by decide) (by decide) _))) b1) ?_
                  refine jx_istore dX11_tellQueue_133 (by decide) ?_
                  refine jx_goto 53 dX11_tellQueue_135 (by decide) ?_
                  have hok : qOk I W H len d p onDay = false := by
                    unfold qOk
                    first | (rw [h80]; rfl) | (rw [decide_eq_true h94, Bool.not_true, Bool.and_false]; rfl) | (rw [decide_eq_false h106, Bool.and_false])
                  rw [hok, if_neg (by decide)] at hq
                  exact jx_ls (by exact ⟨rfl, rfl, rfl, rfl, rfl, rfl, trivial⟩) (ihr (looked ||| (1 <<< p)) onDay _ (by omega) b1 ho hq he hdy hk)
    intro K he hdy hk
    refine jx_iload_n dX11_tellQueue_34 rfl ?_
    refine jx_bipush (v := 40) dX11_tellQueue_35 (by decide) ?_
    refine jx_icmpN_gt (a := d) (b := 40) 148 dX11_tellQueue_37 (by decide) (by omega) (by omega) (fun h37 => ?_) (fun h37 => ?_)
    · refine jx_vret dX11_tellQueue_148 rfl ?_
      have hd41 : d = 41 := by omega
      subst hd41
      exact ⟨rfl, K, rfl, he, hk⟩
    · refine jx_iconst (v := 0) dX11_tellQueue_40 (by decide) ?_
      refine jx_istore_n dX11_tellQueue_41 rfl (by decide) ?_
      refine jx_iload_n dX11_tellQueue_42 rfl ?_
      refine jx_istore dX11_tellQueue_43 (by decide) ?_
      refine jx_aload_n dX11_tellQueue_45 rfl ?_
      refine jx_iload dX11_tellQueue_46 rfl ?_
      refine jx_Vi (as := [.int _]) dX11_tellQueue_48 mlX11_494 okX11_hastiest viX11_hastiest rfl rfl rfl rfl rfl (by decide) (Nat.le_of_ble_eq_true rfl) (tX11_hastiest hW hR hI (eqs_kp he) hdl) ?_
      refine jx_istore dX11_tellQueue_51 (by decide) ?_
      exact jx_ls (by exact ⟨rfl, rfl, rfl, rfl, rfl, rfl, trivial⟩) (key53 (by omega) 6 _ 0 K (Nat.le_trans (cntN_le _ np) hnp) hdl (by omega) rfl he hdy (fun q hq => by rw [Nat.zero_testBit, if_neg (by decide)]; exact hk q hq))
  have key6 : ∀ p, p ≤ np → ∀ K, eqs I K → DYs I K W H len (41 * np) → (∀ q, q < p → K 1101 q = -1) → jWP w l mX11_tellQueue 7 0 0 (fun v t => v = none ∧ (fun t => ∃ K, t = (n, shE, K, L, R) ∧ eqs I K ∧ ∀ q, q < np → K 1101 q = oI (fnd (qAt I W H np len q) 41)) t) (fun _ _ => False) 6 [(0, .ref 1069), (1, .int (nI p))] [] (n, shE, K, L, R) := by
    refine jdown _ (fun p hp ih => ?_)
    intro K he hdy hk
    refine jx_iload_n dX11_tellQueue_6 rfl ?_
    refine jx_aload_n dX11_tellQueue_7 rfl ?_
    refine jx_getR dX11_tellQueue_8 flX11_34 rfl rfl (hR _ _ _ rfl) ?_
    refine jx_bipush (v := 10) dX11_tellQueue_11 (by decide) ?_
    refine jx_ialdE (10) dX11_tellQueue_13 rfl (rfl) (by omega) (by omega) ((congrFun (eqs_kp he 1072 (by omega) (by omega)) 10).trans hI.2.2.2.2.1.1) ?_
    refine jx_icmpN_ge (a := p) (b := np) 30 dX11_tellQueue_14 (by decide) (by omega) (by omega) (fun h14 => ?_) (fun h14 => ?_)
    · refine jx_iconst (v := 0) dX11_tellQueue_30 (by decide) ?_
      refine jx_istore_n dX11_tellQueue_31 rfl (by decide) ?_
      refine jx_iconst (v := 0) dX11_tellQueue_32 (by decide) ?_
      refine jx_istore_n dX11_tellQueue_33 rfl (by decide) ?_
      have hpn : p = np := by omega
      subst hpn
      exact jx_ls (by exact ⟨rfl, rfl, rfl, trivial⟩) (key34 0 (by omega) K he hdy hk)
    · refine jx_aload_n dX11_tellQueue_17 rfl ?_
      refine jx_getR dX11_tellQueue_18 flX11_130 rfl rfl (hR _ _ _ rfl) ?_
      refine jx_iload_n dX11_tellQueue_21 rfl ?_
      refine jx_iconst (v := -1) dX11_tellQueue_22 (by decide) ?_
      refine jx_iastN (p) dX11_tellQueue_23 rfl (rfl) (by omega) (by omega) ?_
      refine jx_iinc dX11_tellQueue_24 rfl (v := nI (p + 1)) (nI_1 _) (by decide) ?_
      refine jx_goto 6 dX11_tellQueue_27 (by decide) ?_
      refine jx_ls (by exact ⟨rfl, rfl, trivial⟩) (ih h14 _ (eqs_u he (scrA (by decide) (by decide) _)) (fun p' d' h1 h2 => ?_) (fun q hq => ?_))
      · rw [upI_nea' (by decide), upI_nea' (by decide)]; exact hdy p' d' h1 h2
      · by_cases e : q = p
        · subst e; exact upI_s
        · rw [upI_j e]; exact hk q (by omega)
  refine jx_aload_n dX11_tellQueue_0 rfl ?_
  refine jx_VRv (as := []) dX11_tellQueue_1 mlX11_491 okX11_tellDays viX11_tellDays rfl rfl rfl rfl rfl (by decide) (Nat.le_of_ble_eq_true rfl) (tX11_tellDays hW hR hI) (fun t1 hq1 => ?_)
  obtain ⟨K, rfl, he, hdy⟩ := hq1
  refine jx_iconst (v := 0) dX11_tellQueue_4 (by decide) ?_
  refine jx_istore_n dX11_tellQueue_5 rfl (by decide) ?_
  exact jx_ls (by exact ⟨rfl, rfl, trivial⟩) (key6 0 (by omega) K he hdy (fun q hq => absurd hq (by omega)))
set_option maxHeartbeats 1000000 in
set_option maxRecDepth 20000 in
theorem tX11_queueF (hW : jWok w l) (hR : RS R) {W H np len : Nat} (hI : RI I W H np len) (p : Int32) (hbad : ¬ (ltQ p np = true)) : jCD w l mX11_queue 3 [.ref 1069, .int p] (n, shE, I, L, R) (some (.int 0)) (n, shE, upI I 1069 2 1, L, R) := by
  refine jCD_of hW (by decide) rfl (Nat.le_of_ble_eq_true rfl) ?_
  have hI0 := hI.kp (k0 I)
  refine jx_aload_n dX11_queue_0 rfl ?_
  refine jx_iconst (v := 0) dX11_queue_1 (by decide) ?_
  refine jx_putI dX11_queue_2 flX11_187 rfl rfl (fun r h => by cases h; rfl) ?_
  refine jx_aload_n dX11_queue_5 rfl ?_
  refine jx_iload_n dX11_queue_6 rfl ?_
  refine jx_Vi (as := [.int _]) dX11_queue_7 mlX11_448 okX11_isParty viX11_isParty rfl rfl rfl rfl rfl (by decide) (Nat.le_of_ble_eq_true rfl) (tX11_isParty hW hR (hI0.2.2.2.2.1.1) hI0.2.2.2.2.1.2 _) ?_
  refine jx_ifB_ne 19 dX11_queue_10 (by decide) (fun h10 => ?_) (fun h10 => ?_)
  · exact absurd h10 hbad
  · refine jx_aload_n dX11_queue_13 rfl ?_
    refine jx_iconst (v := 1) dX11_queue_14 (by decide) ?_
    refine jx_Vi (as := [.int _]) dX11_queue_15 mlX11_351 okX11_fail viX11_fail rfl rfl rfl rfl rfl (by decide) (Nat.le_of_ble_eq_true rfl) (tX11_fail hW _) ?_
    refine jx_iret dX11_queue_18 rfl ?_
    exact ⟨rfl, by rw [up_up]⟩
set_option maxHeartbeats 1000000 in
set_option maxRecDepth 20000 in
theorem tX11_queue (hW : jWok w l) (hR : RS R) {W H np len : Nat} (hI : RI I W H np len) {p : Nat} (hp : p < np) : jRi w l mX11_queue 8 [.ref 1069, .int (nI p)] (n, shE, I, L, R) (fun r t => r = oI (fnd (qAt I W H np len p) 41) ∧ ∃ J, t = (n, shE, J, L, R) ∧ eqs (upI I 1069 2 0) J) := by
  refine jRi_of hW (by decide) rfl (Nat.le_of_ble_eq_true rfl) ?_
  have hI0 := hI.kp (k0 I)
  have hT := hI0.1.1
  have hz := hT.wh
  have hw3 := hT.2.2.1
  have hw9 := hT.2.2.2.1
  have hh1 := hT.2.2.2.2.1
  have hh7 := hT.2.2.2.2.2
  have hnp := hI0.2.2.2.2.1.2
  refine jx_aload_n dX11_queue_0 rfl ?_
  refine jx_iconst (v := 0) dX11_queue_1 (by decide) ?_
  refine jx_putI dX11_queue_2 flX11_187 rfl rfl (fun r h => by cases h; rfl) ?_
  refine jx_aload_n dX11_queue_5 rfl ?_
  refine jx_iload_n dX11_queue_6 rfl ?_
  refine jx_Vi (as := [.int _]) dX11_queue_7 mlX11_448 okX11_isParty viX11_isParty rfl rfl rfl rfl rfl (by decide) (Nat.le_of_ble_eq_true rfl) (tX11_isPartyT hW hR (hI0.2.2.2.2.1.1) hI0.2.2.2.2.1.2 hp) ?_
  refine jx_ifB_ne 19 dX11_queue_10 (by decide) (fun h10 => ?_) (fun h10 => by cases h10)
  refine jx_aload_n dX11_queue_19 rfl ?_
  refine jx_VRv (as := []) dX11_queue_20 mlX11_497 okX11_tellQueue viX11_tellQueue rfl rfl rfl rfl rfl (by decide) (Nat.le_of_ble_eq_true rfl) (tX11_tellQueue hW hR hI0) (fun t20 hq20 => ?_)
  obtain ⟨K, rfl, he1, hk⟩ := hq20
  refine jx_aload_n dX11_queue_23 rfl ?_
  refine jx_getR dX11_queue_24 flX11_130 rfl rfl (hR _ _ _ rfl) ?_
  refine jx_iload_n dX11_queue_27 rfl ?_
  refine jx_ialdN (p) dX11_queue_28 rfl (rfl) (by omega) (by omega) ?_
  refine jx_iret dX11_queue_29 rfl ?_
  refine ⟨_, rfl, ?_, _, rfl, he1⟩
  rw [hk p hp, qAt_kp (k0 I)]
end RS2
