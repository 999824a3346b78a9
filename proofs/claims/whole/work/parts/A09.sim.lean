section RR3
variable {tp : Nat → Nat} {sz : Nat}
theorem Rch_m {x y : X3t} {s t : Rst} (h : Rch tp sz x s y t) : x.1 ≤ y.1 := by
  obtain ⟨k, a, -⟩ := h
  omega
theorem endR_n {x0 x : X3t} {s0 : Rst} {acc code P wt : List Int32} {r d nt cp cp0 : Nat} {nm : Bool} (h0 : x.2.1 = 0) (hR : Rch tp sz x0 s0 x (code, P ++ wt, d, nt, cp, false, nm, false)) {acc0 base c : List Int32} (ha : acc = acc0 ++ c) (hc : code ++ P = base ++ c.map opc) (hP : ∀ s ∈ P, r ≤ rkS s) (hb : x.1 ≤ sz) (hroom : code.length + (P ++ wt).length ≤ x.1) (hcp : cp < 128) (hi : ∀ i, i < d → cp.testBit i = cp0.testBit i) (h5 : 5 ≤ r → cp.testBit d = cp0.testBit d) (hs : stkR tp sz x r d cp) : endR tp sz x0 s0 (x, acc) acc0 base wt r d cp0 :=
  ⟨fun q => absurd h0 q, fun _ => ⟨c, P, code, nt, cp, nm, ha, hc, hP, hR, hb, hroom, hcp, hi, h5, hs⟩⟩
/-- what a row of signs of one rank is, for the class -/
def okJ (tp : Nat → Nat) (sz r : Nat) (c : X3t → Option Int32) : Prop := ∀ x : X3t, (∀ s, c x = some s → x.2.1 = 0 ∧ jnt tp sz x = opc s ∧ rkS (jnt tp sz x) = r) ∧ (c x = none → x.2.1 = 0 → rkS (jnt tp sz x) ≠ r)
theorem lpL_f {c : X3t → Option Int32} {F : Y3t → Y3t} {r : Nat} (hc : okJ tp sz r c) {y : Y3t} (h : y.1.2.1 ≠ 0) : ∀ g, lpL tp sz c F g y = y
  | 0 => rfl
  | g + 1 => by
    rw [lpL]
    cases e : c y.1 with
    | none => rfl
    | some s => exact absurd ((hc y.1).1 s e).1 h
theorem ctx_m {x : X3t} {r d nt cp : Nat} {nm : Bool} (hr : r = 1 ∨ r = 2 ∨ r = 5 ∨ r = 6 ∨ r = 4) (h : ctxR tp sz x r d nt cp nm) : ctxR tp sz x (r + 1) d nt cp nm := by
  unfold ctxR at h ⊢
  rcases hr with rfl | rfl | rfl | rfl | rfl
  · exact h
  · exact h
  · exact ⟨h.1, fun q => by omega⟩
  · exact ⟨h.1, fun q => by omega⟩
  · exact ⟨h.1, fun q => by omega⟩
theorem LoopR {c : X3t → Option Int32} {F : Y3t → Y3t} {r d : Nat} (hsz : sz ≤ 700) (hd : d ≤ 5) (hr : r = 1 ∨ r = 2 ∨ r = 5 ∨ r = 6) (hc : okJ tp sz r c) (hF : SimR tp sz F (r + 1) d) {wt : List Int32} (hw : ∀ s wt', wt = s :: wt' → rkS s < r) (hl : wt.length ≤ 12 * d + cR r) : ∀ (g : Nat) (x : X3t) (acc code P : List Int32) (nt cp : Nat) (nm : Bool), sz < g + x.1 → x.1 ≤ sz → x.2.1 = 0 → cp < 128 → (∀ s ∈ P, r ≤ rkS s) → stkR tp sz x (r + 1) d cp → code.length + (P ++ wt).length ≤ x.1 → endR tp sz x (code, P ++ wt, d, nt, cp, false, nm, false) (lpL tp sz c F g (x, acc)) acc (code ++ P) wt r d cp
  | 0, x, acc, code, P, nt, cp, nm, hg, hb, h0, hcp, hP, hs, hroom => by omega
  | g + 1, x, acc, code, P, nt, cp, nm, hg, hb, h0, hcp, hP, hs, hroom => by
    rw [lpL]
    cases e : c x with
    | none =>
      refine endR_n h0 (Rch_r _ _) (c := []) (by simp) (by simp) hP hb hroom hcp (fun _ _ => rfl) (fun _ => rfl) (fun q1 q2 q3 => ?_)
      have := (hc x).2 e h0
      exact hs q1 q2 (by omega)
    | some s =>
      obtain ⟨-, hj, hrk⟩ := (hc x).1 s e
      have st := jStep (nt := nt) (cp := cp) (nm := nm) hb hsz hd hrk (by rcases hr with h | h | h | h; exact Or.inl h; exact Or.inr (Or.inl h); exact Or.inr (Or.inr (Or.inl h)); exact Or.inr (Or.inr (Or.inr (Or.inl h)))) hP hw hl hroom
      have hk0 : jnt tp sz x ≠ 0 := ((rkS_i _).2.2.2.2.2 (by omega)).1
      have hnx : x.1 < (stX tp sz x).1 := nxt_lt hb (jnt_k hk0)
      have hnl : (stX tp sz x).1 ≤ sz := (nxt_le hb).2
      have hcpc := cp_1 cp hcp d (by omega)
      rw [if_neg (show ¬ r = 4 by omega)] at st
      rw [List.length_append] at hroom
      have hcp1 : (if r ≤ 2 then cpC cp d else cp) < 128 := by split; exact hcpc.1; exact hcp
      have hin := hF (stX tp sz x) acc (code ++ P) (jnt tp sz x :: wt) (if r ≤ 2 then 0 else nt) (if r ≤ 2 then cpC cp d else cp) false (decide (r ≤ 2)) hnl h0 hcp1 (by
        unfold ctxR
        rcases hr with rfl | rfl | rfl | rfl
        · exact ⟨rfl, rfl, hcpc.2.2.1⟩
        · exact ⟨rfl, rfl, hcpc.2.2.1⟩
        · exact ⟨Or.inl rfl, fun q => by omega⟩
        · exact ⟨Or.inl rfl, fun q => by omega⟩) (fun s' wt' q => by cases q; omega) (by rw [List.length_cons]; unfold cR at hl ⊢; rcases hr with rfl | rfl | rfl | rfl <;> simp at hl ⊢ <;> omega) (by rw [List.length_append, List.length_cons]; omega)
      show endR tp sz x _ (lpL tp sz c F g (lyY s (F (stX tp sz x, acc)))) acc (code ++ P) wt r d cp
      by_cases hz : (F (stX tp sz x, acc)).1.2.1 = 0
      · obtain ⟨c1, P1, code1, nt1, cp1, nm1, i1, i2, i3, i4, i5, i6, i7, i8, i9, i10⟩ := hin.2 hz
        have hly : lyY s (F (stX tp sz x, acc)) = ((F (stX tp sz x, acc)).1, acc ++ c1 ++ [s]) := by unfold lyY; rw [if_pos hz, i1]
        rw [hly]
        have hm := Rch_m i4
        have e2 : P1 ++ jnt tp sz x :: wt = (P1 ++ [jnt tp sz x]) ++ wt := by simp
        have ih := LoopR hsz hd hr hc hF hw hl g (F (stX tp sz x, acc)).1 (acc ++ c1 ++ [s]) code1 (P1 ++ [jnt tp sz x]) nt1 cp1 nm1 (by omega) i5 hz i7 (fun s' hs' => by
          rcases List.mem_append.mp hs' with q | q
          · have := i3 s' q; omega
          · rw [List.mem_singleton.mp q]; omega) i10 (by rw [← e2]; exact i6)
        have hR := Rch_t st i4
        rw [e2] at hR
        refine ⟨fun q => Fl_t hR (ih.1 q), fun q => ?_⟩
        obtain ⟨c2, P2, code2, nt2, cp2, nm2, j1, j2, j3, j4, j5, j6, j7, j8, j9, j10⟩ := ih.2 q
        refine ⟨c1 ++ [s] ++ c2, P2, code2, nt2, cp2, nm2, by rw [j1]; simp, ?_, j3, Rch_t hR j4, j5, j6, j7, fun i hi => ?_, fun h5 => ?_, j10⟩
        · rw [j2, ← List.append_assoc, i2, hj]; simp
        · rw [j8 i hi, i8 i hi]
          split
          · exact (hcpc.2.2.2.2 i hi).1
          · rfl
        · rw [j9 h5, i9 (by omega), if_neg (by omega)]
      · have hly : lyY s (F (stX tp sz x, acc)) = F (stX tp sz x, acc) := by unfold lyY; rw [if_neg hz]
        rw [hly, lpL_f hc hz]
        exact ⟨fun q => Fl_t st (hin.1 q), fun q => absurd q hz⟩
theorem SimL {c : X3t → Option Int32} {F : Y3t → Y3t} {r d : Nat} (hsz : sz ≤ 700) (hd : d ≤ 5) (hr : r = 1 ∨ r = 2 ∨ r = 5 ∨ r = 6) (hc : okJ tp sz r c) (hF : SimR tp sz F (r + 1) d) : SimR tp sz (fun y => lpL tp sz c F 701 (F y)) r d := by
  intro x acc code wt nt cp eb nm hb h0 hcp hx hw hl hroom
  have hin := hF x acc code wt nt cp eb nm hb h0 hcp (ctx_m (by omega) hx) (fun s wt' q => by have := hw s wt' q; omega) (by unfold cR at hl ⊢; rcases hr with rfl | rfl | rfl | rfl <;> simp at hl ⊢ <;> omega) hroom
  show endR tp sz x _ (lpL tp sz c F 701 (F (x, acc))) acc code wt r d cp
  by_cases hz : (F (x, acc)).1.2.1 = 0
  · obtain ⟨c1, P1, code1, nt1, cp1, nm1, i1, i2, i3, i4, i5, i6, i7, i8, i9, i10⟩ := hin.2 hz
    have hl1 := LoopR hsz hd hr hc hF hw hl 701 (F (x, acc)).1 (F (x, acc)).2 code1 P1 nt1 cp1 nm1 (by omega) i5 hz i7 (fun s' hs' => by have := i3 s' hs'; omega) i10 i6
    refine ⟨fun q => Fl_t i4 (hl1.1 q), fun q => ?_⟩
    obtain ⟨c2, P2, code2, nt2, cp2, nm2, j1, j2, j3, j4, j5, j6, j7, j8, j9, j10⟩ := hl1.2 q
    refine ⟨c1 ++ c2, P2, code2, nt2, cp2, nm2, ?_, ?_, j3, Rch_t i4 j4, j5, j6, j7, fun i hi => ?_, fun h5 => ?_, j10⟩
    · rw [← List.append_assoc, ← i1]; exact j1
    · rw [j2, i2]; simp
    · rw [j8 i hi, i8 i hi]
    · rw [j9 h5, i9 (by omega)]
  · rw [lpL_f hc hz]
    exact ⟨hin.1, fun q => absurd q hz⟩
theorem SimC {c : X3t → Option Int32} {F : Y3t → Y3t} {d : Nat} (hsz : sz ≤ 700) (hd : d ≤ 5) (hc : okJ tp sz 4 c) (hF : SimR tp sz F 5 d) : SimR tp sz (fun y => lpL tp sz c F 1 (F y)) 4 d := by
  intro x acc code wt nt cp eb nm hb h0 hcp hx hw hl hroom
  have hcb : cp.testBit d = false := hx.2 rfl
  have hin := hF x acc code wt nt cp eb nm hb h0 hcp (ctx_m (r := 4) (by omega) hx) (fun s wt' q => by have := hw s wt' q; omega) (by unfold cR at hl ⊢; simp at hl ⊢; omega) hroom
  show endR tp sz x _ (lpL tp sz c F 1 (F (x, acc))) acc code wt 4 d cp
  by_cases hz : (F (x, acc)).1.2.1 = 0
  · obtain ⟨c1, P1, code1, nt1, cp1, nm1, i1, i2, i3, i4, i5, i6, i7, i8, i9, i10⟩ := hin.2 hz
    generalize hy : F (x, acc) = y at hz i1 i4 i5 i6 i10
    obtain ⟨y1, y2⟩ := y
    dsimp only at hz i1 i4 i5 i6 i10
    rw [lpL]
    cases e : c y1 with
    | none =>
      refine endR_n hz i4 i1 i2 (fun s hs => by have := i3 s hs; omega) i5 i6 i7 i8 (fun q => by omega) (fun q1 q2 q3 => ?_)
      have := (hc y1).2 e hz
      exact i10 q1 q2 (by omega)
    | some s =>
      obtain ⟨-, hj, hrk⟩ := (hc y1).1 s e
      have hcb1 : cp1.testBit d = false := by rw [i9 (by omega)]; exact hcb
      have st := jStep (nt := nt1) (cp := cp1) (nm := nm1) i5 hsz hd hrk (Or.inr (Or.inr (Or.inr (Or.inr ⟨rfl, hcb1⟩)))) (fun s hs => by have := i3 s hs; omega) hw hl i6
      have hk0 : jnt tp sz y1 ≠ 0 := ((rkS_i _).2.2.2.2.2 (by omega)).1
      have hnx : y1.1 < (stX tp sz y1).1 := nxt_lt i5 (jnt_k hk0)
      have hnl : (stX tp sz y1).1 ≤ sz := (nxt_le i5).2
      have hcpc := cp_1 cp1 i7 d (by omega)
      rw [List.length_append] at i6
      have hin2 := hF (stX tp sz y1) y2 (code1 ++ P1) (jnt tp sz y1 :: wt) nt1 (cpS cp1 d) false false hnl hz hcpc.2.1 ⟨Or.inl rfl, fun q => by omega⟩ (fun s' wt' q => by cases q; omega) (by rw [List.length_cons]; unfold cR at hl ⊢; simp at hl ⊢; omega) (by rw [List.length_append, List.length_cons]; omega)
      have st2 : Rch tp sz x (code, wt, d, nt, cp, eb, nm, true) (stX tp sz y1) (code1 ++ P1, jnt tp sz y1 :: wt, d, nt1, cpS cp1 d, false, false, true) := Rch_t i4 st
      show endR tp sz x _ (lyY s (F (stX tp sz y1, y2))) acc code wt 4 d cp
      by_cases hz2 : (F (stX tp sz y1, y2)).1.2.1 = 0
      · obtain ⟨c2, P2, code2, nt2, cp2, nm2, j1, j2, j3, j4, j5, j6, j7, j8, j9, j10⟩ := hin2.2 hz2
        have hly : lyY s (F (stX tp sz y1, y2)) = ((F (stX tp sz y1, y2)).1, y2 ++ c2 ++ [s]) := by unfold lyY; rw [if_pos hz2, j1]
        rw [hly]
        have e2 : P2 ++ jnt tp sz y1 :: wt = (P2 ++ [jnt tp sz y1]) ++ wt := by simp
        have hR := Rch_t st2 j4
        rw [e2] at hR j6
        refine endR_n hz2 hR (c := c1 ++ c2 ++ [s]) (by rw [i1]; simp) ?_ (fun s' hs' => ?_) j5 j6 j7 (fun i hi => ?_) (fun q => by omega) (fun q1 q2 q3 => ?_)
        · rw [← List.append_assoc, j2, i2, hj]; simp
        · rcases List.mem_append.mp hs' with q | q
          · have := j3 s' q; omega
          · rw [List.mem_singleton.mp q]; omega
        · rw [j8 i hi, (hcpc.2.2.2.2 i hi).2, i8 i hi]
        · by_cases q4 : rkS (jnt tp sz (F (stX tp sz y1, y2)).1) = 4
          · exact ⟨q4, by rw [j9 (by omega)]; exact hcpc.2.2.2.1⟩
          · exact j10 q1 q2 (by omega)
      · have hly : lyY s (F (stX tp sz y1, y2)) = F (stX tp sz y1, y2) := by unfold lyY; rw [if_neg hz2]
        rw [hly]
        exact ⟨fun q => Fl_t st2 (hin2.1 q), fun q => absurd q hz2⟩
  · rw [lpL_f hc hz]
    exact ⟨hin.1, fun q => absurd q hz⟩
end RR3
