section RR5
variable {tp : Nat → Nat} {sz : Nat}
theorem rkS_j (j : Int32) : (rkS j = 5 → j = -10 ∨ j = -11) ∧ (rkS j = 6 → j = -12 ∨ j = -13) := by
  unfold rkS
  by_cases h1 : j = -5
  · subst h1; decide
  by_cases h2 : j = -6
  · subst h2; decide
  by_cases h3 : j = -7
  · subst h3; decide
  rw [if_neg h1, if_neg h2, if_neg h3]
  by_cases h4 : j = -8 ∨ j = -9
  · rw [if_pos h4]; exact ⟨fun q => by omega, fun q => by omega⟩
  rw [if_neg h4]
  by_cases h5 : j = -10 ∨ j = -11
  · rw [if_pos h5]; exact ⟨fun _ => h5, fun q => by omega⟩
  rw [if_neg h5]
  by_cases h6 : j = -12 ∨ j = -13
  · rw [if_pos h6]; exact ⟨fun q => by omega, fun _ => h6⟩
  rw [if_neg h6]; exact ⟨fun q => by omega, fun q => by omega⟩
theorem okJ_p : okJ tp sz 6 (cMk tp sz 42 47 (-22) (-23)) := fun x => by
  have hi := jnt_i (tp := tp) (sz := sz) x
  unfold cMk
  by_cases a : mkX tp sz x 42 = true
  · rw [if_pos a]
    have e := hi.2.2.1.mpr a
    exact ⟨fun s q => by cases q; exact ⟨(mkX_t a).1, e, by rw [e]; decide⟩, fun q => by cases q⟩
  · rw [if_neg a]
    by_cases b : mkX tp sz x 47 = true
    · rw [if_pos b]
      have e := hi.2.2.2.1.mpr b
      exact ⟨fun s q => by cases q; exact ⟨(mkX_t b).1, e, by rw [e]; decide⟩, fun q => by cases q⟩
    · rw [if_neg b]
      refine ⟨fun s q => (by cases q), fun _ _ q => ?_⟩
      rcases (rkS_j _).2 q with h | h
      · exact a (hi.2.2.1.mp h)
      · exact b (hi.2.2.2.1.mp h)
theorem okJ_s : okJ tp sz 5 (cMk tp sz 43 45 (-20) (-21)) := fun x => by
  have hi := jnt_i (tp := tp) (sz := sz) x
  unfold cMk
  by_cases a : mkX tp sz x 43 = true
  · rw [if_pos a]
    have e := hi.1.mpr a
    exact ⟨fun s q => by cases q; exact ⟨(mkX_t a).1, e, by rw [e]; decide⟩, fun q => by cases q⟩
  · rw [if_neg a]
    by_cases b : mkX tp sz x 45 = true
    · rw [if_pos b]
      have e := hi.2.1.mpr b
      exact ⟨fun s q => by cases q; exact ⟨(mkX_t b).1, e, by rw [e]; decide⟩, fun q => by cases q⟩
    · rw [if_neg b]
      refine ⟨fun s q => (by cases q), fun _ _ q => ?_⟩
      rcases (rkS_j _).1 q with h | h
      · exact a (hi.1.mp h)
      · exact b (hi.2.1.mp h)
theorem okJ_c : okJ tp sz 4 (cMk tp sz 60 61 (-24) (-25)) := fun x => by
  have hi := jnt_i (tp := tp) (sz := sz) x
  unfold cMk
  by_cases a : mkX tp sz x 60 = true
  · rw [if_pos a]
    have e := hi.2.2.2.2.1.mpr a
    exact ⟨fun s q => by cases q; exact ⟨(mkX_t a).1, e, by rw [e]; decide⟩, fun q => by cases q⟩
  · rw [if_neg a]
    by_cases b : mkX tp sz x 61 = true
    · rw [if_pos b]
      have e := hi.2.2.2.2.2.1.mpr b
      exact ⟨fun s q => by cases q; exact ⟨(mkX_t b).1, e, by rw [e]; decide⟩, fun q => by cases q⟩
    · rw [if_neg b]
      refine ⟨fun s q => (by cases q), fun _ _ q => ?_⟩
      rcases (rkS_i _).2.2.2.1 q with h | h
      · exact a (hi.2.2.2.2.1.mp h)
      · exact b (hi.2.2.2.2.2.1.mp h)
theorem okJ_a : okJ tp sz 2 (cWd tp sz [97, 110, 100] (-26)) := fun x => by
  have hi := jnt_i (tp := tp) (sz := sz) x
  unfold cWd
  by_cases a : isX tp sz x [97, 110, 100] = true
  · rw [if_pos a]
    have e := hi.2.2.2.2.2.2.2.2.1.mpr a
    exact ⟨fun s q => by cases q; exact ⟨(isX_t a).1, e, by rw [e]; decide⟩, fun q => by cases q⟩
  · rw [if_neg a]
    exact ⟨fun s q => (by cases q), fun _ _ q => a (hi.2.2.2.2.2.2.2.2.1.mp ((rkS_i _).2.1 q))⟩
theorem okJ_o : okJ tp sz 1 (cWd tp sz [111, 114] (-27)) := fun x => by
  have hi := jnt_i (tp := tp) (sz := sz) x
  unfold cWd
  by_cases a : isX tp sz x [111, 114] = true
  · rw [if_pos a]
    have e := hi.2.2.2.2.2.2.2.1.mpr a
    exact ⟨fun s q => by cases q; exact ⟨(isX_t a).1, e, by rw [e]; decide⟩, fun q => by cases q⟩
  · rw [if_neg a]
    exact ⟨fun s q => (by cases q), fun _ _ q => a (hi.2.2.2.2.2.2.2.1.mp ((rkS_i _).1 q))⟩
theorem partE_f {E : Y3t → Y3t} {y : Y3t} (h : y.1.2.1 ≠ 0) : partE tp sz E y = y := by unfold partE; exact if_pos h
theorem cmpE_f {E : Y3t → Y3t} {y : Y3t} (h : y.1.2.1 ≠ 0) : cmpE tp sz E y = y := by
  have h1 : prodE tp sz E y = y := by unfold prodE; rw [partE_f h]; exact lpL_f okJ_p h _
  have h2 : sumE tp sz E y = y := by unfold sumE; rw [h1]; exact lpL_f okJ_s h _
  unfold cmpE; rw [h2]; exact lpL_f okJ_c h _
theorem exprE_f {y : Y3t} (h : y.1.2.1 ≠ 0) : ∀ e, exprE tp sz e y = y
  | 0 => by rw [exprE, if_pos h]
  | e + 1 => by rw [exprE, if_pos h]
theorem rP_st {x : X3t} {s : Rst} (h : s.2.2.2.2.2.2.2 = true) : rStp tp sz x s = rPart tp sz x s := by unfold rStp; rw [if_pos h]
theorem SimE (hsz : sz ≤ 700) : ∀ (e d : Nat), e + d = 6 → SimX tp sz (exprE tp sz e) d
  | 0, d, hd => by
    intro x acc code wt cp hb h0 hcp hc hw hl hroom
    rw [exprE, if_neg (fun q => q h0)]
    by_cases m : mayE tp sz x = true
    · rw [if_pos m]
      exact ⟨fun _ => Fl_1 hb (by decide) rEnd_p ((rP_st rfl).trans (by unfold rPart; rw [if_neg (by rw [m]; decide), if_pos ⟨rfl, show 6 ≤ d by omega⟩])), fun q => absurd q (pWr_z h0 (by decide))⟩
    · rw [if_neg m]
      exact ⟨fun _ => Fl_1 hb (by decide) rEnd_p ((rP_st rfl).trans (by unfold rPart; rw [if_pos (Bool.eq_false_iff.mpr m)])), fun q => absurd q (pWr_z h0 (by decide))⟩
  | e + 1, d, hd => by
    have hE := SimE hsz e (d + 1) (by omega)
    have hd5 : d ≤ 5 := by omega
    have s7 : SimR tp sz (partE tp sz (exprE tp sz e)) 7 d := SimP hsz hd5 hE (fun y hy => exprE_f hy e)
    have s6 : SimR tp sz (prodE tp sz (exprE tp sz e)) 6 d := SimL hsz hd5 (by omega) okJ_p s7
    have s5 : SimR tp sz (sumE tp sz (exprE tp sz e)) 5 d := SimL hsz hd5 (by omega) okJ_s s6
    have s4 : SimR tp sz (cmpE tp sz (exprE tp sz e)) 4 d := SimC hsz hd5 okJ_c s5
    have s3 : SimR tp sz (notE tp sz (exprE tp sz e)) 3 d := SimN hsz hd5 s4 (fun y hy => cmpE_f hy)
    have s2 : SimR tp sz (andE tp sz (exprE tp sz e)) 2 d := SimL hsz hd5 (by omega) okJ_a s3
    have s1 : SimR tp sz (orE tp sz (exprE tp sz e)) 1 d := SimL hsz hd5 (by omega) okJ_o s2
    intro x acc code wt cp hb h0 hcp hc hw hl hroom
    rw [exprE, if_neg (fun q => q h0)]
    by_cases m : mayE tp sz x = true
    · rw [if_pos m]
      exact s1 x acc code wt 0 cp true true hb h0 hcp ⟨rfl, rfl, hc⟩ hw hl hroom
    · rw [if_neg m]
      exact ⟨fun _ => Fl_1 hb (by decide) rEnd_p ((rP_st rfl).trans (by unfold rPart; rw [if_pos (Bool.eq_false_iff.mpr m)])), fun q => absurd q (pWr_z h0 (by decide))⟩
/-- a whole rule, for the class -/
theorem mGo_e (hsz : sz ≤ 700) {x : X3t} {cp : Nat} (hb : x.1 ≤ sz) (h0 : x.2.1 = 0) (hcp : cp < 128) (hc : cp.testBit 0 = false) {y : Y3t} (hy : exprE tp sz 6 (x, []) = y) : y.1.1 ≤ sz ∧ (y.1.2.1 ≠ 0 → mGo tp sz 701 x ([], [], 0, 0, cp, true, true, true) = (y.1, none)) ∧ (y.1.2.1 = 0 → mkX tp sz y.1 59 = true → mGo tp sz 701 x ([], [], 0, 0, cp, true, true, true) = (y.1, some (y.2.map opc))) ∧ (y.1.2.1 = 0 → mkX tp sz y.1 59 = false → mGo tp sz 701 x ([], [], 0, 0, cp, true, true, true) = (pWr 1 y.1, none)) := by
  have hS := SimE (tp := tp) hsz 6 0 rfl x [] [] [] cp hb h0 hcp hc (fun s wt' q => by cases q) (Nat.zero_le _) (Nat.zero_le _)
  rw [hy] at hS
  obtain ⟨hS1, hS2⟩ := hS
  have hyb : y.1.1 ≤ sz := by rw [← hy]; exact (mo_expr 6 (x, []) hb).2.2.1
  refine ⟨hyb, fun q => ?_, fun q m => ?_, fun q m => ?_⟩
  · obtain ⟨k, k1, k2⟩ := hS1 q
    have := k2 (700 - k)
    rw [show k + 1 + (700 - k) = 701 by omega] at this
    exact this
  · obtain ⟨c, P, code', nt', cp', nm', i1, i2, i3, ⟨k, k1, k2⟩, i5, i6, i7, i8, i9, i10⟩ := hS2 q
    have h := k2 (700 - k + 1)
    rw [show k + (700 - k + 1) = 701 by omega] at h
    rw [h, mGo, if_pos (by unfold rEnd; rw [m]; rfl)]
    show (y.1, some (rlC 1 code' (P ++ [])).1) = _
    rw [List.length_append] at i6
    rw [rlC_all (fun s wt' q => by cases q) P code' i3 (by omega), i2, i1]
    rfl
  · obtain ⟨c, P, code', nt', cp', nm', i1, i2, i3, ⟨k, k1, k2⟩, i5, i6, i7, i8, i9, i10⟩ := hS2 q
    have h := k2 (700 - k + 1)
    rw [show k + (700 - k + 1) = 701 by omega] at h
    have hst : rStp tp sz y.1 (code', P ++ [], 0, nt', cp', false, nm', false) = (1, (code', P ++ [], 0, nt', cp', false, nm', false)) := by
      unfold rStp
      rw [if_neg (fun q : false = true => by cases q)]
      unfold rJnt
      by_cases z0 : jnt tp sz y.1 = 0
      · rw [if_pos z0]
      · rw [if_neg z0]
        by_cases z14 : jnt tp sz y.1 = -14
        · rw [if_pos z14]; exact if_pos rfl
        · rw [if_neg z14]
          obtain ⟨s1, s2⟩ := i10 z0 z14 (jnt_r z0 z14)
          have h4 := (rkS_i (jnt tp sz y.1)).2.2.2.1 s1
          rw [if_neg (by intro q; rcases h4 with h4 | h4 <;> rcases q with q | q <;> rw [h4] at q <;> exact absurd q (by decide)), if_pos h4]
          exact if_pos s2
    rw [h, mGo, if_neg (by unfold rEnd; rw [m]; simp), hst, if_neg (show ¬ (1 : Nat) = 0 by decide)]
end RR5
