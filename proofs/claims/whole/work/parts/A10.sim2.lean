section RR4
variable {tp : Nat → Nat} {sz : Nat}
theorem rpt_f {s : Int32} {y : Y3t} (h : y.1.2.1 ≠ 0) : ∀ k, rpt s k y = y
  | 0 => rfl
  | k + 1 => by
    have e : lyY s y = y := by unfold lyY; rw [if_neg h]
    rw [rpt, e, rpt_f h k]
theorem rpt_0 {s : Int32} : ∀ (k : Nat) (x : X3t) (l : List Int32), x.2.1 = 0 → rpt s k (x, l) = (x, l ++ List.replicate k s)
  | 0, x, l, _ => by rw [rpt]; simp
  | k + 1, x, l, h => by
    have e : lyY s (x, l) = (x, l ++ [s]) := by unfold lyY; rw [if_pos h]
    rw [rpt, e, rpt_0 k x _ h, List.append_assoc]
    rfl
theorem rP_not {x : X3t} {code wt : List Int32} {d nt cp : Nat} {eb : Bool} (hd : d ≤ 5) (h : isX tp sz x [110, 111, 116] = true) : rStp tp sz x (code, wt, d, nt, cp, eb, true, true) = if 6 < nt + 1 then (2, (code, wt, d, nt, cp, eb, true, true)) else (0, (code, hdW wt (-7), d, nt + 1, cp, false, true, true)) := by
  have hk := (isX_t h).2
  have hm : mayE tp sz x = true := by unfold mayE; rw [decide_eq_true hk]; simp
  unfold rStp
  rw [if_pos (show (true : Bool) = true from rfl)]
  unfold rPart
  rw [if_neg (by rw [hm]; decide), if_neg (fun q => absurd q.2 (show ¬ 6 ≤ d by omega)), if_neg (by rw [mkX_v h]; decide), if_neg (by rw [hk]; decide), if_pos ⟨rfl, h⟩]
theorem NtL {d : Nat} (hd : d ≤ 5) : ∀ (r : Nat) (x : X3t) (code wt : List Int32) (nt cp : Nat) (eb : Bool), nt + r = 6 → x.1 ≤ sz → x.2.1 = 0 → wt.length + r ≤ 95 → ((ntL tp sz r x).2.2.1 ≠ 0 → Fl tp sz x (code, wt, d, nt, cp, eb, true, true) (ntL tp sz r x).2) ∧ ((ntL tp sz r x).2.2.1 = 0 → ∃ eb', Rch tp sz x (code, wt, d, nt, cp, eb, true, true) (ntL tp sz r x).2 (code, List.replicate (ntL tp sz r x).1 (-7) ++ wt, d, nt + (ntL tp sz r x).1, cp, eb', true, true) ∧ isX tp sz (ntL tp sz r x).2 [110, 111, 116] = false ∧ (ntL tp sz r x).1 ≤ r ∧ (ntL tp sz r x).1 + x.1 ≤ (ntL tp sz r x).2.1 ∧ (ntL tp sz r x).2.1 ≤ sz)
  | 0, x, code, wt, nt, cp, eb, hn, hb, h0, hl => by
    rw [ntL]
    by_cases h : isX tp sz x [110, 111, 116] = true
    · rw [if_pos h]
      refine ⟨fun _ => Fl_1 hb (by decide) rEnd_p ((rP_not hd h).trans (if_pos (by omega))), fun q => absurd q (pWr_z h0 (by decide))⟩
    · rw [if_neg h]
      refine ⟨fun q => absurd h0 q, fun _ => ⟨eb, Rch_r _ _, Bool.eq_false_iff.mpr h, Nat.le_refl _, by show 0 + x.1 ≤ x.1; omega, hb⟩⟩
  | r + 1, x, code, wt, nt, cp, eb, hn, hb, h0, hl => by
    rw [ntL]
    by_cases h : isX tp sz x [110, 111, 116] = true
    · rw [if_pos h]
      have hk : tKd tp sz x.1 ≠ 0 := by rw [(isX_t h).2]; decide
      have hnx : x.1 < (stX tp sz x).1 := nxt_lt hb hk
      have hnl : (stX tp sz x).1 ≤ sz := (nxt_le hb).2
      have st : Rch tp sz x (code, wt, d, nt, cp, eb, true, true) (stX tp sz x) (code, -7 :: wt, d, nt + 1, cp, false, true, true) := Rch_1 hb hk rEnd_p ((rP_not hd h).trans ((if_neg (by omega)).trans (by rw [hdW_p (by omega)])))
      have ih := NtL hd r (stX tp sz x) code (-7 :: wt) (nt + 1) cp false (by omega) hnl h0 (by rw [List.length_cons]; omega)
      refine ⟨fun q => Fl_t st (ih.1 q), fun q => ?_⟩
      obtain ⟨eb', i1, i2, i3, i4, i5⟩ := ih.2 q
      refine ⟨eb', ?_, i2, by show (ntL tp sz r (stX tp sz x)).1 + 1 ≤ r + 1; omega, by show (ntL tp sz r (stX tp sz x)).1 + 1 + x.1 ≤ (ntL tp sz r (stX tp sz x)).2.1; omega, i5⟩
      have e : List.replicate ((ntL tp sz r (stX tp sz x)).1 + 1) (-7 : Int32) ++ wt = List.replicate (ntL tp sz r (stX tp sz x)).1 (-7) ++ (-7 :: wt) := by rw [List.replicate_succ', List.append_assoc]; rfl
      show Rch tp sz x _ _ (code, List.replicate ((ntL tp sz r (stX tp sz x)).1 + 1) (-7 : Int32) ++ wt, d, nt + ((ntL tp sz r (stX tp sz x)).1 + 1), cp, eb', true, true)
      rw [e, show nt + ((ntL tp sz r (stX tp sz x)).1 + 1) = nt + 1 + (ntL tp sz r (stX tp sz x)).1 by omega]
      exact Rch_t st i1
    · rw [if_neg h]
      refine ⟨fun q => absurd h0 q, fun _ => ⟨eb, Rch_r _ _, Bool.eq_false_iff.mpr h, Nat.zero_le _, by show 0 + x.1 ≤ x.1; omega, hb⟩⟩
theorem SimN {C : Y3t → Y3t} {d : Nat} (hsz : sz ≤ 700) (hd : d ≤ 5) (hC : SimR tp sz C 4 d) (hCf : ∀ y : Y3t, y.1.2.1 ≠ 0 → C y = y) : SimR tp sz (fun y => rpt (-28) (ntL tp sz 6 y.1).1 (C ((ntL tp sz 6 y.1).2, y.2))) 3 d := by
  intro x acc code wt nt cp eb nm hb h0 hcp hx hw hl hroom
  obtain ⟨x1, x2, x3⟩ := hx
  subst x1 x2
  have hl' : wt.length ≤ 12 * d + 2 := hl
  have hN := NtL (tp := tp) hd 6 x code wt 0 cp eb rfl hb h0 (by omega)
  show endR tp sz x _ (rpt (-28) (ntL tp sz 6 x).1 (C ((ntL tp sz 6 x).2, acc))) acc code wt 3 d cp
  generalize ntL tp sz 6 x = N at hN
  obtain ⟨k, x'⟩ := N
  dsimp only at hN ⊢
  by_cases hz : x'.2.1 = 0
  · obtain ⟨eb', i1, i2, i3, i4, i5⟩ := hN.2 hz
    have hin := hC x' acc code (List.replicate k (-7) ++ wt) (0 + k) cp eb' true i5 hz hcp ⟨Or.inr i2, fun _ => x3⟩ (fun s wt' q => by
      cases k with
      | zero => have := hw s wt' (by simpa using q); omega
      | succ k => rw [List.replicate_succ, List.cons_append] at q; cases q; decide) (by rw [List.length_append, List.length_replicate]; show k + wt.length ≤ 12 * d + 8; omega) (by rw [List.length_append, List.length_replicate]; omega)
    by_cases hz2 : (C (x', acc)).1.2.1 = 0
    · obtain ⟨c1, P1, code1, nt1, cp1, nm1, j1, j2, j3, j4, j5, j6, j7, j8, j9, j10⟩ := hin.2 hz2
      generalize hy : C (x', acc) = y at hz2 j1 j4 j5 j6 j10
      obtain ⟨y1, y2⟩ := y
      dsimp only at hz2 j1 j4 j5 j6 j10
      rw [rpt_0 k y1 y2 hz2]
      have e2 : P1 ++ (List.replicate k (-7) ++ wt) = (P1 ++ List.replicate k (-7)) ++ wt := by rw [List.append_assoc]
      have hR := Rch_t i1 j4
      rw [e2] at hR j6
      refine endR_n hz2 hR (c := c1 ++ List.replicate k (-28)) (by rw [j1, List.append_assoc]) ?_ (fun s hs => ?_) j5 j6 j7 j8 (fun q => by omega) (fun q1 q2 q3 => ?_)
      · rw [← List.append_assoc, j2, List.map_append, List.map_replicate, List.append_assoc]; rfl
      · rcases List.mem_append.mp hs with q | q
        · have := j3 s q; omega
        · rw [(List.mem_replicate.mp q).2]; decide
      · have h7 := (jnt_i (tp := tp) (sz := sz) y1).2.2.2.2.2.2.2.2.2
        have h3 : rkS (jnt tp sz y1) ≠ 3 := fun q => h7 ((rkS_i _).2.2.1 q)
        exact j10 q1 q2 (by omega)
    · rw [rpt_f hz2]
      exact ⟨fun q => Fl_t i1 (hin.1 q), fun q => absurd q hz2⟩
  · rw [hCf (x', acc) hz, rpt_f (y := (x', acc)) hz]
    exact ⟨fun q => hN.1 hz, fun q => absurd q hz⟩
theorem jnt_r {x : X3t} (h0 : jnt tp sz x ≠ 0) (h14 : jnt tp sz x ≠ -14) : 1 ≤ rkS (jnt tp sz x) := by
  have h : jnt tp sz x = -10 ∨ jnt tp sz x = -11 ∨ jnt tp sz x = -12 ∨ jnt tp sz x = -13 ∨ jnt tp sz x = -8 ∨ jnt tp sz x = -9 ∨ jnt tp sz x = -14 ∨ jnt tp sz x = -5 ∨ jnt tp sz x = -6 ∨ jnt tp sz x = 0 := by
    unfold jnt
    split
    · simp
    · split
      · simp
      · split
        · simp
        · split
          · simp
          · split
            · simp
            · split
              · simp
              · split
                · simp
                · split
                  · simp
                  · split <;> simp
  rcases h with h | h | h | h | h | h | h | h | h | h
  · rw [h]; decide
  · rw [h]; decide
  · rw [h]; decide
  · rw [h]; decide
  · rw [h]; decide
  · rw [h]; decide
  · exact absurd h h14
  · rw [h]; decide
  · rw [h]; decide
  · exact absurd h h0
def SimX (tp : Nat → Nat) (sz : Nat) (E : Y3t → Y3t) (d : Nat) : Prop := ∀ (x : X3t) (acc code wt : List Int32) (cp : Nat), x.1 ≤ sz → x.2.1 = 0 → cp < 128 → cp.testBit d = false → (∀ s wt', wt = s :: wt' → rkS s < 1) → wt.length ≤ 12 * d → code.length + wt.length ≤ x.1 → endR tp sz x (code, wt, d, 0, cp, true, true, true) (E (x, acc)) acc code wt 1 d cp
theorem stk7 {x : X3t} {d cp : Nat} : stkR tp sz x 7 d cp := fun _ _ q => by have := rkS_6 (jnt tp sz x); omega
theorem opc_n {v : Nat} (h : v ≤ 9999) : opc (nI v) = nI v := (opc_a (by
  rw [Int32.le_iff_toInt_le, nI_toInt (by omega)]
  show (-4 : Int) ≤ _
  omega)).1
theorem opc_v : ∀ v, v < 4 → opc (-1 - nI v) = -1 - nI v := by decide +kernel
theorem SimP {E : Y3t → Y3t} {d : Nat} (hsz : sz ≤ 700) (hd : d ≤ 5) (hE : SimX tp sz E (d + 1)) (hEf : ∀ y : Y3t, y.1.2.1 ≠ 0 → E y = y) : SimR tp sz (partE tp sz E) 7 d := by
  intro x acc code wt nt cp eb nm hb h0 hcp hx hw hl hroom
  have hnn : nm = false ∨ isX tp sz x [110, 111, 116] = false := hx.1
  have hl' : wt.length ≤ 12 * d + 11 := hl
  have hnx : tKd tp sz x.1 ≠ 0 → x.1 < (stX tp sz x).1 := fun q => nxt_lt hb q
  have hnl : (stX tp sz x).1 ≤ sz := (nxt_le hb).2
  have hst : ∀ (k : Nat) (t : Rst), rPart tp sz x (code, wt, d, nt, cp, eb, nm, true) = (k, t) → rStp tp sz x (code, wt, d, nt, cp, eb, nm, true) = (k, t) := fun k t q => by
    unfold rStp
    rw [if_pos (show (true : Bool) = true from rfl)]; exact q
  have hd6 : ¬ (eb = true ∧ 6 ≤ d) := fun q => by omega
  unfold partE
  rw [if_neg (fun q => q h0)]
  by_cases k2 : tKd tp sz x.1 = 2
  · have hm : mayE tp sz x = true := by unfold mayE; rw [decide_eq_true k2]; simp
    have hm40 : mkX tp sz x 40 = false := mkX_k (by omega)
    rw [if_pos k2]
    by_cases hn : numC tp sz x.1 0 9999 = 0
    · have hp : pNu tp sz 0 9999 x = stX tp sz x := by unfold pNu stX; rw [if_pos h0, if_pos hn, h0]
      have hly : lyY (nI (vNu tp sz 0 9999 x)) (pNu tp sz 0 9999 x, acc) = (stX tp sz x, acc ++ [nI (vNu tp sz 0 9999 x)]) := by
        rw [hp]; unfold lyY; exact if_pos h0
      have hv : vNu tp sz 0 9999 x ≤ 9999 := vNu_le
      have hlt := hnx (by omega)
      show endR tp sz x _ (lyY (nI (vNu tp sz 0 9999 x)) (pNu tp sz 0 9999 x, acc)) acc code wt 7 d cp
      rw [hly]
      have st : Rch tp sz x (code, wt, d, nt, cp, eb, nm, true) (stX tp sz x) (code ++ [nI (vNu tp sz 0 9999 x)], [] ++ wt, d, nt, cp, false, nm, false) := Rch_1 hb (by omega) rEnd_p (hst _ _ (by
        unfold rPart
        rw [if_neg (by rw [hm]; decide), if_neg hd6, if_neg (by rw [hm40]; decide), if_pos k2, if_pos hn]
        show (0, (adC code _, wt, d, nt, cp, false, nm, false)) = _
        unfold adC
        rw [if_pos (by omega)]; rfl))
      refine endR_n (x := stX tp sz x) (P := []) (wt := wt) h0 st (c := [nI (vNu tp sz 0 9999 x)]) rfl (by rw [List.append_nil, List.map_cons, List.map_nil, opc_n hv]) (fun s hs => by cases hs) hnl (by rw [List.length_append, List.nil_append]; show code.length + 1 + wt.length ≤ _; omega) hcp (fun _ _ => rfl) (fun _ => rfl) stk7
    · have hp : pNu tp sz 0 9999 x = pWr (numC tp sz x.1 0 9999) x := by unfold pNu pWr; rw [if_pos h0, if_neg hn, if_pos h0]
      have hz : (pWr (numC tp sz x.1 0 9999) x).2.1 ≠ 0 := pWr_z h0 hn
      have hly : lyY (nI (vNu tp sz 0 9999 x)) (pNu tp sz 0 9999 x, acc) = (pWr (numC tp sz x.1 0 9999) x, acc) := by
        rw [hp]; unfold lyY; exact if_neg hz
      show endR tp sz x _ (lyY (nI (vNu tp sz 0 9999 x)) (pNu tp sz 0 9999 x, acc)) acc code wt 7 d cp
      rw [hly]
      exact ⟨fun _ => Fl_1 hb hn rEnd_p (hst _ _ (by
        unfold rPart
        rw [if_neg (by rw [hm]; decide), if_neg hd6, if_neg (by rw [hm40]; decide), if_pos k2, if_neg hn])), fun q => absurd q hz⟩
  · rw [if_neg k2]
    by_cases k1 : tKd tp sz x.1 = 1
    · have hm : mayE tp sz x = true := by unfold mayE; rw [decide_eq_true k1]; simp
      have hm40 : mkX tp sz x 40 = false := mkX_k (by omega)
      have hnot : ¬ (nm = true ∧ isX tp sz x [110, 111, 116] = true) := fun q => by
        rcases hnn with h | h
        · rw [h] at q; cases q.1
        · rw [h] at q; cases q.2
      rw [if_pos k1]
      show endR tp sz x _ (match valX tp sz x with | some v => (stX tp sz x, acc ++ [-1 - nI v]) | none => (pWr 3 x, acc)) acc code wt 7 d cp
      cases e : valX tp sz x with
      | some v =>
        have hv : v < 4 := (fnd_some.mp e).1
        have hlt := hnx (by omega)
        have st : Rch tp sz x (code, wt, d, nt, cp, eb, nm, true) (stX tp sz x) (code ++ [-1 - nI v], [] ++ wt, d, nt, cp, false, nm, false) := Rch_1 hb (by omega) rEnd_p (hst _ _ (by
          unfold rPart
          rw [if_neg (by rw [hm]; decide), if_neg hd6, if_neg (by rw [hm40]; decide), if_neg k2, if_neg hnot, e]
          show (0, (adC code _, wt, d, nt, cp, false, nm, false)) = _
          unfold adC
          rw [if_pos (by omega)]; rfl))
        exact endR_n (x := stX tp sz x) (P := []) (wt := wt) h0 st (c := [-1 - nI v]) rfl (by rw [List.append_nil, List.map_cons, List.map_nil, opc_v v hv]) (fun s hs => by cases hs) hnl (by rw [List.length_append, List.nil_append]; show code.length + 1 + wt.length ≤ _; omega) hcp (fun _ _ => rfl) (fun _ => rfl) stk7
      | none =>
        exact ⟨fun _ => Fl_1 hb (by decide) rEnd_p (hst _ _ (by
          unfold rPart
          rw [if_neg (by rw [hm]; decide), if_neg hd6, if_neg (by rw [hm40]; decide), if_neg k2, if_neg hnot, e])), fun q => absurd q (pWr_z h0 (by decide))⟩
    · rw [if_neg k1]
      show endR tp sz x _ (pMk tp sz 41 (E (pMk tp sz 40 x, acc)).1, (E (pMk tp sz 40 x, acc)).2) acc code wt 7 d cp
      by_cases m : mkX tp sz x 40 = true
      · have hm : mayE tp sz x = true := by unfold mayE; rw [m]; simp
        have hk3 := (mkX_t m).2.1
        have hlt := hnx (by omega)
        have hp : pMk tp sz 40 x = stX tp sz x := by
          unfold pMk stX
          rw [if_pos h0, if_pos (by unfold mkX at m; rw [h0] at m; exact m), h0]
        have hcc := cp_1 cp hcp (d + 1) (by omega)
        rw [hp]
        have st : Rch tp sz x (code, wt, d, nt, cp, eb, nm, true) (stX tp sz x) (code, -14 :: wt, d + 1, 0, cpC cp (d + 1), true, true, true) := Rch_1 hb (by omega) rEnd_p (hst _ _ (by
          unfold rPart
          rw [if_neg (by rw [hm]; decide), if_neg hd6, if_pos m]
          show (0, (code, hdW wt (-14), d + 1, 0, cpC cp (d + 1), true, true, true)) = _
          rw [hdW_p (by omega)]))
        have hin := hE (stX tp sz x) acc code (-14 :: wt) (cpC cp (d + 1)) hnl h0 hcc.1 hcc.2.2.1 (fun s wt' q => by cases q; decide) (by rw [List.length_cons]; omega) (by rw [List.length_cons]; omega)
        generalize hy : E (stX tp sz x, acc) = y at hin
        obtain ⟨y1, y2⟩ := y
        by_cases hz : y1.2.1 = 0
        · obtain ⟨c1, P1, code1, nt1, cp1, nm1, j1, j2, j3, j4, j5, j6, j7, j8, j9, j10⟩ := hin.2 hz
          dsimp only at j1 j4 j5 j6 j10
          have hR := Rch_t st j4
          rw [List.length_append, List.length_cons] at j6
          show endR tp sz x _ (pMk tp sz 41 y1, y2) acc code wt 7 d cp
          by_cases m2 : mkX tp sz y1 41 = true
          · have hp2 : pMk tp sz 41 y1 = stX tp sz y1 := by
              unfold pMk stX
              rw [if_pos hz, if_pos (by unfold mkX at m2; rw [hz] at m2; exact m2), hz]
            have hj := jnt_41 m2
            have hk3 := (mkX_t m2).2.1
            have hlt2 : y1.1 < (stX tp sz y1).1 := nxt_lt j5 (by omega)
            have hnl2 : (stX tp sz y1).1 ≤ sz := (nxt_le j5).2
            have st2 : Rch tp sz y1 (code1, P1 ++ -14 :: wt, d + 1, nt1, cp1, false, nm1, false) (stX tp sz y1) (code1 ++ P1, [] ++ wt, d, nt1, cp1, false, nm1, false) := Rch_1 j5 (by omega) (rEnd_j (by rw [hj]; decide)) (by
              unfold rStp
              rw [if_neg (fun q : false = true => by cases q)]
              unfold rJnt
              rw [hj, if_neg (by decide), if_pos rfl, if_neg (show ¬ d + 1 = 0 by omega)]
              show (0, ((rlC 1 code1 (P1 ++ -14 :: wt)).1, (rlC 1 code1 (P1 ++ -14 :: wt)).2.tail, d + 1 - 1, nt1, cp1, false, nm1, false)) = _
              rw [rlC_all (fun s wt' q => by cases q; decide) P1 code1 j3 (by omega)]
              rfl)
            rw [hp2]
            refine endR_n (x := stX tp sz y1) (P := []) (wt := wt) hz (Rch_t hR st2) j1 (by rw [List.append_nil]; exact j2) (fun s hs => by cases hs) hnl2 (by rw [List.length_append, List.nil_append]; omega) j7 (fun i hi => ?_) (fun _ => ?_) stk7
            · rw [j8 i (by omega), (hcc.2.2.2.2 i (by omega)).1]
            · rw [j8 d (by omega), (hcc.2.2.2.2 d (by omega)).1]
          · have hp2 : pMk tp sz 41 y1 = pWr 1 y1 := by
              unfold pMk pWr
              rw [if_pos hz, if_neg (by unfold mkX at m2; rw [hz] at m2; exact m2), if_pos hz]
            rw [hp2]
            refine ⟨fun _ => Fl_t hR (Fl_1 j5 (by decide) ?_ (t := (code1, P1 ++ -14 :: wt, d + 1, nt1, cp1, false, nm1, false)) ?_), fun q => absurd q (pWr_z hz (by decide))⟩
            · unfold rEnd
              rw [Bool.and_eq_false_iff]
              exact Or.inl (decide_eq_false (fun q => by have := q.2; exact absurd this (Nat.succ_ne_zero d)))
            · unfold rStp
              rw [if_neg (fun q : false = true => by cases q)]
              unfold rJnt
              by_cases z0 : jnt tp sz y1 = 0
              · rw [if_pos z0]
              · rw [if_neg z0]
                have z14 : jnt tp sz y1 ≠ -14 := fun q => m2 ((jnt_i y1).2.2.2.2.2.2.1.mp q)
                rw [if_neg z14]
                by_cases zr : 1 ≤ rkS (jnt tp sz y1)
                · obtain ⟨s1, s2⟩ := j10 z0 z14 zr
                  have h4 := (rkS_i (jnt tp sz y1)).2.2.2.1 s1
                  rw [if_neg (by intro q; rcases h4 with h4 | h4 <;> rcases q with q | q <;> rw [h4] at q <;> exact absurd q (by decide)), if_pos h4]
                  exact if_pos s2
                · exfalso
                  exact zr (jnt_r z0 z14)
        · have hp2 : pMk tp sz 41 y1 = y1 := by unfold pMk; rw [if_neg hz]
          show endR tp sz x _ (pMk tp sz 41 y1, y2) acc code wt 7 d cp
          rw [hp2]
          exact ⟨fun q => Fl_t st (hin.1 q), fun q => absurd q hz⟩
      · have hm : mayE tp sz x = false := by unfold mayE; rw [decide_eq_false k2, decide_eq_false k1, Bool.eq_false_iff.mpr m]; rfl
        have hp : pMk tp sz 40 x = pWr 1 x := by
          unfold pMk pWr
          rw [if_pos h0, if_neg (by unfold mkX at m; rw [h0] at m; exact m), if_pos h0]
        have hz : (pWr 1 x).2.1 ≠ 0 := pWr_z h0 (by decide)
        have hp2 : pMk tp sz 41 (pWr 1 x) = pWr 1 x := by unfold pMk; rw [if_neg hz]
        rw [hp, hEf (pWr 1 x, acc) hz]
        show endR tp sz x _ (pMk tp sz 41 (pWr 1 x), acc) acc code wt 7 d cp
        rw [hp2]
        exact ⟨fun _ => Fl_1 hb (by decide) rEnd_p (hst _ _ (by unfold rPart; rw [if_pos hm])), fun q => absurd q hz⟩
end RR4
