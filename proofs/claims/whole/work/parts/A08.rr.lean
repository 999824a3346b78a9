/-! how the class reads a rule: a pure machine, and that it comes to what the descent comes to -/
abbrev X3t : Type := Nat × Nat × Nat
abbrev Y3t : Type := (Nat × Nat × Nat) × List Int32
/-- code, what waits (top first), depth, nots, compared depths, an expression begins, not may stand, a part is due -/
abbrev Rst : Type := List Int32 × List Int32 × Nat × Nat × Nat × Bool × Bool × Bool
def rkS (s : Int32) : Nat := if s = -5 then 1 else if s = -6 then 2 else if s = -7 then 3 else if s = -8 ∨ s = -9 then 4 else if s = -10 ∨ s = -11 then 5 else if s = -12 ∨ s = -13 then 6 else 0
theorem rkS_6 (s : Int32) : rkS s ≤ 6 := by
  unfold rkS
  split <;> (try split) <;> (try split) <;> (try split) <;> (try split) <;> (try split) <;> omega
def adC (code : List Int32) (s : Int32) : List Int32 := if code.length < 700 then code ++ [s] else code
def hdW (wt : List Int32) (s : Int32) : List Int32 := if wt.length < 96 then s :: wt else wt
def rlC (r : Nat) : List Int32 → List Int32 → List Int32 × List Int32
  | code, [] => (code, [])
  | code, s :: wt => if r ≤ rkS s then rlC r (adC code s) wt else (code, s :: wt)
def cpC (cp d : Nat) : Nat := cp &&& (127 - 2 ^ d)
def cpS (cp d : Nat) : Nat := cp ||| 2 ^ d
theorem cp_1 : ∀ cp, cp < 128 → ∀ d, d < 7 → cpC cp d < 128 ∧ cpS cp d < 128 ∧ (cpC cp d).testBit d = false ∧ (cpS cp d).testBit d = true ∧ ∀ i, i < d → (cpC cp d).testBit i = cp.testBit i ∧ (cpS cp d).testBit i = cp.testBit i := by decide +kernel
theorem cp_2 : ∀ cp, cp < 128 → ∀ d, d < 7 → nI cp &&& ((1 <<< (nI d &&& 31)) ^^^ (-1)) = nI (cpC cp d) ∧ nI cp ||| (1 <<< (nI d &&& 31)) = nI (cpS cp d) ∧ (nI cp >>> (nI d &&& 31)) &&& 1 = jb (cp.testBit d) := by decide +kernel
section RR
variable (tp : Nat → Nat) (sz : Nat)
def jnt (x : X3t) : Int32 := if mkX tp sz x 43 = true then -10 else if mkX tp sz x 45 = true then -11 else if mkX tp sz x 42 = true then -12 else if mkX tp sz x 47 = true then -13 else if mkX tp sz x 60 = true then -8 else if mkX tp sz x 61 = true then -9 else if mkX tp sz x 41 = true then -14 else if isX tp sz x [111, 114] = true then -5 else if isX tp sz x [97, 110, 100] = true then -6 else 0
def rPart (x : X3t) (s : Rst) : Nat × Rst :=
  if mayE tp sz x = false then (1, s)
  else if s.2.2.2.2.2.1 = true ∧ 6 ≤ s.2.2.1 then (2, s)
  else if mkX tp sz x 40 = true then (0, (s.1, hdW s.2.1 (-14), s.2.2.1 + 1, 0, cpC s.2.2.2.2.1 (s.2.2.1 + 1), true, true, true))
  else if tKd tp sz x.1 = 2 then (if numC tp sz x.1 0 9999 = 0 then (0, (adC s.1 (nI (vNu tp sz 0 9999 x)), s.2.1, s.2.2.1, s.2.2.2.1, s.2.2.2.2.1, false, s.2.2.2.2.2.2.1, false)) else (numC tp sz x.1 0 9999, s))
  else if s.2.2.2.2.2.2.1 = true ∧ isX tp sz x [110, 111, 116] = true then (if 6 < s.2.2.2.1 + 1 then (2, s) else (0, (s.1, hdW s.2.1 (-7), s.2.2.1, s.2.2.2.1 + 1, s.2.2.2.2.1, false, s.2.2.2.2.2.2.1, s.2.2.2.2.2.2.2)))
  else match valX tp sz x with
    | some v => (0, (adC s.1 (-1 - nI v), s.2.1, s.2.2.1, s.2.2.2.1, s.2.2.2.2.1, false, s.2.2.2.2.2.2.1, false))
    | none => (3, s)
def rJnt (x : X3t) (s : Rst) : Nat × Rst :=
  if jnt tp sz x = 0 then (1, s)
  else if jnt tp sz x = -14 then (if s.2.2.1 = 0 then (1, s) else (0, ((rlC 1 s.1 s.2.1).1, (rlC 1 s.1 s.2.1).2.tail, s.2.2.1 - 1, s.2.2.2.1, s.2.2.2.2.1, s.2.2.2.2.2.1, s.2.2.2.2.2.2.1, s.2.2.2.2.2.2.2)))
  else if jnt tp sz x = -5 ∨ jnt tp sz x = -6 then (0, ((rlC (rkS (jnt tp sz x)) s.1 s.2.1).1, hdW (rlC (rkS (jnt tp sz x)) s.1 s.2.1).2 (jnt tp sz x), s.2.2.1, 0, cpC s.2.2.2.2.1 s.2.2.1, s.2.2.2.2.2.1, true, true))
  else if jnt tp sz x = -8 ∨ jnt tp sz x = -9 then (if s.2.2.2.2.1.testBit s.2.2.1 = true then (1, s) else (0, ((rlC (rkS (jnt tp sz x)) s.1 s.2.1).1, hdW (rlC (rkS (jnt tp sz x)) s.1 s.2.1).2 (jnt tp sz x), s.2.2.1, s.2.2.2.1, cpS s.2.2.2.2.1 s.2.2.1, s.2.2.2.2.2.1, false, true)))
  else (0, ((rlC (rkS (jnt tp sz x)) s.1 s.2.1).1, hdW (rlC (rkS (jnt tp sz x)) s.1 s.2.1).2 (jnt tp sz x), s.2.2.1, s.2.2.2.1, s.2.2.2.2.1, s.2.2.2.2.2.1, false, true))
def rStp (x : X3t) (s : Rst) : Nat × Rst := if s.2.2.2.2.2.2.2 = true then rPart tp sz x s else rJnt tp sz x s
def rEnd (x : X3t) (s : Rst) : Bool := decide (s.2.2.2.2.2.2.2 = false ∧ s.2.2.1 = 0) && mkX tp sz x 59
def mGo : Nat → X3t → Rst → X3t × Option (List Int32)
  | 0, x, _ => (pWr 1 x, none)
  | g + 1, x, s => if rEnd tp sz x s = true then (x, some (rlC 1 s.1 s.2.1).1) else if (rStp tp sz x s).1 = 0 then mGo g (stX tp sz x) (rStp tp sz x s).2 else (pWr (rStp tp sz x s).1 x, none)
def Rch (x : X3t) (s : Rst) (x' : X3t) (s' : Rst) : Prop := ∃ k, k + x.1 ≤ x'.1 ∧ ∀ g, mGo tp sz (k + g) x s = mGo tp sz g x' s'
def Fl (x : X3t) (s : Rst) (y : X3t) : Prop := ∃ k, k + x.1 ≤ sz ∧ ∀ g, mGo tp sz (k + 1 + g) x s = (y, none)
end RR
section RR2
variable {tp : Nat → Nat} {sz : Nat}
theorem Rch_r (x : X3t) (s : Rst) : Rch tp sz x s x s := ⟨0, by omega, fun g => by rw [Nat.zero_add]⟩
theorem Rch_t {x y z : X3t} {s t u : Rst} (h1 : Rch tp sz x s y t) (h2 : Rch tp sz y t z u) : Rch tp sz x s z u := by
  obtain ⟨k1, a1, b1⟩ := h1
  obtain ⟨k2, a2, b2⟩ := h2
  exact ⟨k1 + k2, by omega, fun g => by rw [Nat.add_assoc, b1, b2]⟩
theorem Fl_t {x y : X3t} {s t : Rst} {z : X3t} (h1 : Rch tp sz x s y t) (h2 : Fl tp sz y t z) : Fl tp sz x s z := by
  obtain ⟨k1, a1, b1⟩ := h1
  obtain ⟨k2, a2, b2⟩ := h2
  exact ⟨k1 + k2, by omega, fun g => by rw [Nat.add_assoc, Nat.add_assoc, b1, ← Nat.add_assoc, b2]⟩
theorem Rch_1 {x : X3t} {s t : Rst} (hb : x.1 ≤ sz) (hk : tKd tp sz x.1 ≠ 0) (he : rEnd tp sz x s = false) (hs : rStp tp sz x s = (0, t)) : Rch tp sz x s (stX tp sz x) t := by
  refine ⟨1, ?_, fun g => ?_⟩
  · have := nxt_lt hb hk
    show 1 + x.1 ≤ nxt tp sz x.1
    omega
  · rw [Nat.add_comm 1 g, mGo, if_neg (by rw [he]; decide), hs, if_pos rfl]
theorem Fl_1 {x : X3t} {s t : Rst} {k : Nat} (hb : x.1 ≤ sz) (hk : k ≠ 0) (he : rEnd tp sz x s = false) (hs : rStp tp sz x s = (k, t)) : Fl tp sz x s (pWr k x) := by
  refine ⟨0, by omega, fun g => ?_⟩
  rw [Nat.zero_add, Nat.add_comm 1 g, mGo, if_neg (by rw [he]; decide), hs, if_neg hk]
theorem rlC_all {r : Nat} {wt : List Int32} (hw : ∀ s wt', wt = s :: wt' → rkS s < r) : ∀ (P code : List Int32), (∀ s ∈ P, r ≤ rkS s) → code.length + P.length ≤ 700 → rlC r code (P ++ wt) = (code ++ P, wt)
  | [], code, _, _ => by
    rw [List.nil_append, List.append_nil]
    cases wt with
    | nil => rfl
    | cons s wt' => rw [rlC, if_neg (by have := hw s wt' rfl; omega)]
  | s :: P, code, hP, hl => by
    rw [List.length_cons] at hl
    rw [List.cons_append, rlC, if_pos (hP s (by simp)), adC, if_pos (by omega), rlC_all hw P (code ++ [s]) (fun s' hs => hP s' (by simp [hs])) (by rw [List.length_append]; simp; omega), List.append_assoc]
    rfl
/-- how many may wait at a depth below a rank -/
def cR (r : Nat) : Nat := if r ≤ 3 then r - 1 else r + 4
def ctxR (tp : Nat → Nat) (sz : Nat) (x : X3t) (r d nt cp : Nat) (nm : Bool) : Prop := if r ≤ 3 then nm = true ∧ nt = 0 ∧ cp.testBit d = false else (nm = false ∨ isX tp sz x [110, 111, 116] = false) ∧ (r = 4 → cp.testBit d = false)
def stkR (tp : Nat → Nat) (sz : Nat) (x : X3t) (r d cp : Nat) : Prop := jnt tp sz x ≠ 0 → jnt tp sz x ≠ -14 → r ≤ rkS (jnt tp sz x) → rkS (jnt tp sz x) = 4 ∧ cp.testBit d = true
/-- how a reading at a rank ends -/
def endR (tp : Nat → Nat) (sz : Nat) (x0 : X3t) (s0 : Rst) (y : Y3t) (acc base wt : List Int32) (r d cp : Nat) : Prop :=
  (y.1.2.1 ≠ 0 → Fl tp sz x0 s0 y.1) ∧ (y.1.2.1 = 0 → ∃ c P code' nt' cp' nm', y.2 = acc ++ c ∧ code' ++ P = base ++ c.map opc ∧ (∀ s ∈ P, r ≤ rkS s) ∧ Rch tp sz x0 s0 y.1 (code', P ++ wt, d, nt', cp', false, nm', false) ∧ y.1.1 ≤ sz ∧ code'.length + (P ++ wt).length ≤ y.1.1 ∧ cp' < 128 ∧ (∀ i, i < d → cp'.testBit i = cp.testBit i) ∧ (5 ≤ r → cp'.testBit d = cp.testBit d) ∧ stkR tp sz y.1 r d cp')
def SimR (tp : Nat → Nat) (sz : Nat) (F : Y3t → Y3t) (r d : Nat) : Prop := ∀ (x : X3t) (acc code wt : List Int32) (nt cp : Nat) (eb nm : Bool), x.1 ≤ sz → x.2.1 = 0 → cp < 128 → ctxR tp sz x r d nt cp nm → (∀ s wt', wt = s :: wt' → rkS s < r) → wt.length ≤ 12 * d + cR r → code.length + wt.length ≤ x.1 → endR tp sz x (code, wt, d, nt, cp, eb, nm, true) (F (x, acc)) acc code wt r d cp
theorem rkS_i (j : Int32) : (rkS j = 1 → j = -5) ∧ (rkS j = 2 → j = -6) ∧ (rkS j = 3 → j = -7) ∧ (rkS j = 4 → j = -8 ∨ j = -9) ∧ (4 < rkS j → j ≠ -5 ∧ j ≠ -6 ∧ j ≠ -8 ∧ j ≠ -9) ∧ (0 < rkS j → j ≠ 0 ∧ j ≠ -14) := by
  unfold rkS
  by_cases h1 : j = -5
  · subst h1; decide
  · rw [if_neg h1]
    by_cases h2 : j = -6
    · subst h2; decide
    · rw [if_neg h2]
      by_cases h3 : j = -7
      · subst h3; decide
      · rw [if_neg h3]
        by_cases h4 : j = -8 ∨ j = -9
        · rw [if_pos h4]
          refine ⟨fun q => by omega, fun q => by omega, fun q => by omega, fun _ => h4, fun q => by omega, fun _ => ?_⟩
          rcases h4 with rfl | rfl <;> decide
        · rw [if_neg h4]
          refine ⟨fun q => ?_, fun q => ?_, fun q => ?_, fun q => ?_, fun _ => ⟨h1, h2, fun q => h4 (Or.inl q), fun q => h4 (Or.inr q)⟩, fun q => ?_⟩
          · split at q <;> (try split at q) <;> omega
          · split at q <;> (try split at q) <;> omega
          · split at q <;> (try split at q) <;> omega
          · split at q <;> (try split at q) <;> omega
          · constructor
            · intro e; subst e; revert q; decide
            · intro e; subst e; revert q; decide
theorem mkX_a {x : X3t} {c : Nat} (h : mkX tp sz x c = true) : x.2.1 = 0 ∧ tKd tp sz x.1 = 3 ∧ tp x.1 = c := by
  unfold mkX mkQ at h
  rw [Bool.and_eq_true, Bool.and_eq_true] at h
  exact ⟨of_decide_eq_true h.1.1, of_decide_eq_true h.1.2, of_decide_eq_true h.2⟩
theorem mkX_ne {x : X3t} {c c' : Nat} (h : mkX tp sz x c = true) (hn : c ≠ c') : mkX tp sz x c' = false := Bool.eq_false_iff.mpr (fun q => hn ((mkX_a h).2.2.symm.trans (mkX_a q).2.2))
theorem mkX_w {x : X3t} {c : Nat} {cs : List Nat} (h : mkX tp sz x c = true) : isX tp sz x cs = false := Bool.eq_false_iff.mpr (fun q => by have a := (mkX_a h).2.1; have b := (isX_t q).2; omega)
theorem mkX_v {x : X3t} {c : Nat} {cs : List Nat} (h : isX tp sz x cs = true) : mkX tp sz x c = false := Bool.eq_false_iff.mpr (fun q => by have a := (mkX_a q).2.1; have b := (isX_t h).2; omega)
theorem mkX_k {x : X3t} {c : Nat} (h : tKd tp sz x.1 ≠ 3) : mkX tp sz x c = false := Bool.eq_false_iff.mpr (fun q => h (mkX_a q).2.1)
theorem jnt_59 {x : X3t} (h : mkX tp sz x 59 = true) : jnt tp sz x = 0 := by
  unfold jnt
  rw [mkX_ne h (c' := 43) (by decide), mkX_ne h (c' := 45) (by decide), mkX_ne h (c' := 42) (by decide), mkX_ne h (c' := 47) (by decide), mkX_ne h (c' := 60) (by decide), mkX_ne h (c' := 61) (by decide), mkX_ne h (c' := 41) (by decide), mkX_w h, mkX_w h]
  rfl
theorem jnt_41 {x : X3t} (h : mkX tp sz x 41 = true) : jnt tp sz x = -14 := by
  unfold jnt
  rw [mkX_ne h (c' := 43) (by decide), mkX_ne h (c' := 45) (by decide), mkX_ne h (c' := 42) (by decide), mkX_ne h (c' := 47) (by decide), mkX_ne h (c' := 60) (by decide), mkX_ne h (c' := 61) (by decide), h]
  rfl
/-- what the joint is, turned round -/
theorem jnt_i (x : X3t) : (jnt tp sz x = -10 ↔ mkX tp sz x 43 = true) ∧ (jnt tp sz x = -11 ↔ mkX tp sz x 45 = true) ∧ (jnt tp sz x = -12 ↔ mkX tp sz x 42 = true) ∧ (jnt tp sz x = -13 ↔ mkX tp sz x 47 = true) ∧ (jnt tp sz x = -8 ↔ mkX tp sz x 60 = true) ∧ (jnt tp sz x = -9 ↔ mkX tp sz x 61 = true) ∧ (jnt tp sz x = -14 ↔ mkX tp sz x 41 = true) ∧ (jnt tp sz x = -5 ↔ isX tp sz x [111, 114] = true) ∧ (jnt tp sz x = -6 ↔ isX tp sz x [97, 110, 100] = true) ∧ jnt tp sz x ≠ -7 := by
  by_cases a1 : mkX tp sz x 43 = true
  · unfold jnt; simp [a1, mkX_ne a1, mkX_w a1]
  by_cases a2 : mkX tp sz x 45 = true
  · unfold jnt; simp [a1, a2, mkX_ne a2, mkX_w a2]
  by_cases a3 : mkX tp sz x 42 = true
  · unfold jnt; simp [a1, a2, a3, mkX_ne a3, mkX_w a3]
  by_cases a4 : mkX tp sz x 47 = true
  · unfold jnt; simp [a1, a2, a3, a4, mkX_ne a4, mkX_w a4]
  by_cases a5 : mkX tp sz x 60 = true
  · unfold jnt; simp [a1, a2, a3, a4, a5, mkX_ne a5, mkX_w a5]
  by_cases a6 : mkX tp sz x 61 = true
  · unfold jnt; simp [a1, a2, a3, a4, a5, a6, mkX_ne a6, mkX_w a6]
  by_cases a7 : mkX tp sz x 41 = true
  · unfold jnt; simp [a1, a2, a3, a4, a5, a6, a7, mkX_w a7]
  by_cases a8 : isX tp sz x [111, 114] = true
  · have a9 := isX_ne a8 (cs' := [97, 110, 100]) (by decide)
    unfold jnt; simp [a1, a2, a3, a4, a5, a6, a7, a8, a9]
  by_cases a9 : isX tp sz x [97, 110, 100] = true
  · unfold jnt; simp [a1, a2, a3, a4, a5, a6, a7, a8, a9]
  · unfold jnt; simp [a1, a2, a3, a4, a5, a6, a7, a8, a9]
theorem jnt_k {x : X3t} (h : jnt tp sz x ≠ 0) : tKd tp sz x.1 ≠ 0 := fun q => h (by
  have hm : ∀ c, mkX tp sz x c = false := fun c => mkX_k (by omega)
  have hw : ∀ cs, isX tp sz x cs = false := fun cs => Bool.eq_false_iff.mpr (fun z => by have b := (isX_t z).2; omega)
  unfold jnt
  simp [hm, hw])
theorem rEnd_j {x : X3t} {s : Rst} (h : jnt tp sz x ≠ 0) : rEnd tp sz x s = false := by
  unfold rEnd
  rw [Bool.and_eq_false_iff]
  exact Or.inr (Bool.eq_false_iff.mpr (fun q => h (jnt_59 q)))
theorem rEnd_p {x : X3t} {code wt : List Int32} {d nt cp : Nat} {eb nm : Bool} : rEnd tp sz x (code, wt, d, nt, cp, eb, nm, true) = false := by
  unfold rEnd
  rw [Bool.and_eq_false_iff]
  exact Or.inl (decide_eq_false (fun q => by cases q.1))
theorem hdW_p {wt : List Int32} {s : Int32} (h : wt.length < 96) : hdW wt s = s :: wt := if_pos h
/-- one joint -/
theorem jStep {x : X3t} {code P wt : List Int32} {d nt cp r : Nat} {nm : Bool} (hb : x.1 ≤ sz) (hsz : sz ≤ 700) (hd : d ≤ 5) (hj : rkS (jnt tp sz x) = r) (hr : r = 1 ∨ r = 2 ∨ r = 5 ∨ r = 6 ∨ r = 4 ∧ cp.testBit d = false) (hP : ∀ s ∈ P, r ≤ rkS s) (hw : ∀ s wt', wt = s :: wt' → rkS s < r) (hl : wt.length ≤ 12 * d + cR r) (hroom : code.length + (P ++ wt).length ≤ x.1) : Rch tp sz x (code, P ++ wt, d, nt, cp, false, nm, false) (stX tp sz x) (code ++ P, jnt tp sz x :: wt, d, if r ≤ 2 then 0 else nt, if r ≤ 2 then cpC cp d else if r = 4 then cpS cp d else cp, false, decide (r ≤ 2), true) := by
  have hi := rkS_i (jnt tp sz x)
  have hn0 : jnt tp sz x ≠ 0 ∧ jnt tp sz x ≠ -14 := hi.2.2.2.2.2 (by omega)
  have hcr : cR r ≤ 11 := by unfold cR; split <;> omega
  rw [List.length_append] at hroom
  refine Rch_1 hb (jnt_k hn0.1) (rEnd_j hn0.1) ?_
  unfold rStp
  rw [if_neg (fun q : false = true => by cases q)]
  unfold rJnt
  rw [if_neg hn0.1, if_neg hn0.2, hj]
  show (if _ then (0, ((rlC r code (P ++ wt)).1, hdW (rlC r code (P ++ wt)).2 _, _)) else if _ then (if _ then _ else (0, ((rlC r code (P ++ wt)).1, hdW (rlC r code (P ++ wt)).2 _, _))) else (0, ((rlC r code (P ++ wt)).1, hdW (rlC r code (P ++ wt)).2 _, _))) = _
  rw [rlC_all hw P code hP (by omega)]
  have hh : hdW (code ++ P, wt).2 (jnt tp sz x) = jnt tp sz x :: wt := hdW_p (wt := wt) (by omega)
  rw [hh]
  rcases hr with rfl | rfl | rfl | rfl | ⟨rfl, hc⟩
  · rw [if_pos (Or.inl (hi.1 hj))]; rfl
  · rw [if_pos (Or.inr (hi.2.1 hj))]; rfl
  · have h4 := hi.2.2.2.2.1 (by omega)
    rw [if_neg (by intro q; rcases q with q | q; exact h4.1 q; exact h4.2.1 q), if_neg (by intro q; rcases q with q | q; exact h4.2.2.1 q; exact h4.2.2.2 q)]; rfl
  · have h4 := hi.2.2.2.2.1 (by omega)
    rw [if_neg (by intro q; rcases q with q | q; exact h4.1 q; exact h4.2.1 q), if_neg (by intro q; rcases q with q | q; exact h4.2.2.1 q; exact h4.2.2.2 q)]; rfl
  · have h4 := hi.2.2.2.1 hj
    have hc' : (code, P ++ wt, d, nt, cp, false, nm, false).2.2.2.2.1.testBit (code, P ++ wt, d, nt, cp, false, nm, false).2.2.1 = false := hc
    rw [if_neg (by intro q; rcases h4 with h4 | h4 <;> rcases q with q | q <;> rw [h4] at q <;> exact absurd q (by decide)), if_pos h4, if_neg (by rw [hc]; decide)]; rfl
end RR2
