/-! THE CLASS: a line -/
section CZ14
variable {w : jWD} {l : Launch} {n : Nat} {I J : Nat → Nat → Int32} {L M : Nat → Nat → Int64} {R : Nat → Nat → Option Nat} {sz : Nat} {tp : Nat → Nat} {x : Nat × Nat × Nat} {T : Nat → Nat → Int32} {h W H np len s : Nat}
def eqW (h : Nat) (I J : Nat → Nat → Int32) : Prop := ∀ b j : Nat, gF h b j = false → b ≠ 1006 → b ≠ 1007 → J b j = I b j
/-- what a line comes to; the class may have refused already what the next sign would be refused for -/
def LnR (n : Nat) (R : Nat → Nat → Option Nat) (sz : Nat) (tp : Nat → Nat) (h W H : Nat) (I : Nat → Nat → Int32) (L : Nat → Nat → Int64) (f : (Nat × Nat × Nat) × (Nat → Nat → Int32)) (s : Nat) (r : Int32) (t : jHS) : Prop :=
  ∃ J M R', t = (n, shE, J, M, R') ∧ (∀ a k, ¬ (a = 1006 ∧ k = 3) → R' a k = R a k) ∧ eqW h I J ∧ eqGL h L M ∧ CPk J ∧ ((r = jb true ∧ f.1.2.1 = 0 ∧ C3 J sz tp f.1 ∧ CTl J M h f.2 W H ∧ J 1004 3 = nI (1024 * s)) ∨ (r = jb false ∧ (pMk tp sz 59 f.1).2.1 ≠ 0 ∧ C3 J sz tp (pMk tp sz 59 f.1)))
theorem pMk_f {c : Nat} (h : x.2.1 ≠ 0) : pMk tp sz c x = x := by unfold pMk; rw [if_neg h]
theorem LnR_z {f : (Nat × Nat × Nat) × (Nat → Nat → Int32)} {r : Int32} {t : jHS} (hq : LnR n R sz tp h W H I L f s r t) : r = 0 ∨ r = 1 := by
  obtain ⟨J, M, R', _, _, _, _, _, q⟩ := hq
  rcases q with q | q
  · rw [q.1]; exact Or.inr rfl
  · rw [q.1]; exact Or.inl rfl
theorem gF_6 (hh : h = 1008 ∨ h = 1024) (b j : Nat) (hb : b = 1006 ∨ b = 1007) : gF h b j = false := decide_eq_false (by omega)
theorem LnR_q {f : (Nat × Nat × Nat) × (Nat → Nat → Int32)} {r : Int32} {t : jHS} (hh : h = 1008 ∨ h = 1024) (hc : CPk I) (hq : LnQ n R sz tp h W H I L f s r t) : LnR n R sz tp h W H I L f s r t := by
  obtain ⟨J, M, e, g1, g2, g3, g4, z⟩ := hq
  obtain ⟨c, c1, c2⟩ := hc
  refine ⟨J, M, R, e, fun _ _ _ => rfl, fun b j hb _ _ => g1 b j hb, g2, ⟨c, (g1 1006 6 (gF_6 hh _ _ (Or.inl rfl))).trans c1, c2⟩, ?_⟩
  by_cases hz : f.1.2.1 = 0
  · exact Or.inl ⟨by rw [z, decide_eq_true hz], hz, g3, g4 hz⟩
  · exact Or.inr ⟨by rw [z, decide_eq_false hz], by rw [pMk_f hz]; exact hz, by rw [pMk_f hz]; exact g3⟩
theorem eqW_t {K : Nat → Nat → Int32} (h1 : eqW h I J) (h2 : eqW h J K) : eqW h I K := fun b j a1 a2 a3 => (h2 b j a1 a2 a3).trans (h1 b j a1 a2 a3)
theorem eqG_W (h1 : eqG h I J) : eqW h I J := fun b j a1 _ _ => h1 b j a1
theorem LnR_f {f : (Nat × Nat × Nat) × (Nat → Nat → Int32)} {r : Int32} {t : jHS} (he : eqW h I J) (hq : LnR n R sz tp h W H J L f s r t) : LnR n R sz tp h W H I L f s r t := by
  obtain ⟨K, M, R', e, g0, g1, g2, g3, q⟩ := hq
  exact ⟨K, M, R', e, g0, eqW_t he g1, g2, g3, q⟩
theorem LnR_b {f : (Nat × Nat × Nat) × (Nat → Nat → Int32)} {X : Nat × Nat × Nat} {R' : Nat → Nat → Option Nat} (hf : pMk tp sz 59 f.1 = X) (hz : X.2.1 ≠ 0) (hR : ∀ a k, ¬ (a = 1006 ∧ k = 3) → R' a k = R a k) (he : eqW h I J) (hL : eqGL h L M) (hc : CPk J) (hx : C3 J sz tp X) : LnR n R sz tp h W H I L f s (jb false) (n, shE, J, M, R') := by
  subst hf
  exact ⟨J, M, R', rfl, hR, he, hL, hc, Or.inr ⟨rfl, hz, hx⟩⟩
theorem eqQ_W (hh : h = 1008 ∨ h = 1024) (he : eqQ h I J) : eqW h I J := fun b j a1 a2 a3 => he b j (by
  have hb := of_decide_eq_false a1
  unfold tkR
  rw [Bool.or_eq_false_iff]
  exact ⟨decide_eq_false (fun q => hb (Or.inr (Or.inl q))), decide_eq_false (fun q => hb (Or.inl ⟨q.1, Or.inr q.2⟩))⟩) a2 a3 (fun q => by have hb := of_decide_eq_false a1; omega) (fun q => by have hb := of_decide_eq_false a1; omega)
theorem map_getD {l : List Int32} {k : Nat} (hk : k < l.length) : (l.map opc).getD k 0 = opc (l.getD k 0) := by
  rw [List.getD_eq_getElem?_getD, List.getD_eq_getElem?_getD, List.getElem?_map, List.getElem?_eq_getElem hk]; rfl
theorem CTl_rl {acc : List Int32} (hh : h = 1008 ∨ h = 1024) (hC : CTl I L h T W H) (he : eqQ h I J) (hA : RA J h (acc.map opc)) (hn : cN (T 1072 10) ≤ 6) : CTl J L h (rlT T acc) W H := by
  obtain ⟨e1, e2, e3, e4, e5, e6, e7, e8, e9, e10, e11⟩ := hC
  have hlen : acc.length ≤ 700 := by have := hA.2.1; rw [List.length_map] at this; exact this
  have hne : ∀ c j, h ≤ c → c < h + 16 → c ≠ h + 5 → c ≠ h + 6 → J c j = I c j := fun c j a1 a2 a3 a4 => he c j (tkR_a (by omega) j) (by omega) (by omega) a3 a4
  have h16 : rlT T acc 1072 16 = nI acc.length := rfl
  have hpar : ∀ p k, p < cN (T 1072 10) → k < 6 → J (h + 10 + p) k = rlT T acc (1076 + k) p := fun p k hp hk => by
    rw [hne _ _ (by omega) (by omega) (by omega) (by omega)]
    unfold rlT
    rw [if_neg (by omega), if_neg (by omega)]; exact e9.2 p k hp hk
  refine ⟨⟨?_, ?_⟩, fun c hc => ?_, e3, e4, ⟨?_, fun k hk => ?_, e5.2.2⟩, ⟨?_, ?_⟩, e7, ⟨?_, fun k hk => ?_⟩, ⟨?_, hpar⟩, ⟨?_, ?_, ?_, ?_⟩, fun f hf => ?_⟩
  · exact (hne _ _ (by omega) (by omega) (by omega) (by omega)).trans e1.1
  · exact (hne _ _ (by omega) (by omega) (by omega) (by omega)).trans e1.2
  · exact (hne _ _ (by omega) (by omega) (by omega) (by omega)).trans (e2 c hc)
  · exact (hne _ _ (by omega) (by omega) (by omega) (by omega)).trans e5.1
  · exact (hne _ _ (by omega) (by omega) (by omega) (by omega)).trans (e5.2.1 k hk)
  · exact (hne _ _ (by omega) (by omega) (by omega) (by omega)).trans e6.1
  · exact (hne _ _ (by omega) (by omega) (by omega) (by omega)).trans e6.2
  · rw [hA.1, List.length_map, h16]
  · rw [h16, cN_nI (by omega)] at hk
    rw [hA.2.2 k (by rw [List.length_map]; exact hk), map_getD hk]
    unfold rlT
    rw [if_pos ⟨rfl, hk⟩]
  · exact (hne _ _ (by omega) (by omega) (by omega) (by omega)).trans e9.1
  · exact (hne _ _ (by omega) (by omega) (by omega) (by omega)).trans e10.1
  · exact (hne _ _ (by omega) (by omega) (by omega) (by omega)).trans e10.2.1
  · exact (hne _ _ (by omega) (by omega) (by omega) (by omega)).trans e10.2.2.1
  · exact (hne _ _ (by omega) (by omega) (by omega) (by omega)).trans e10.2.2.2
  · rw [hne _ _ (by omega) (by omega) (by omega) (by omega)]
    unfold rlT
    rw [if_neg (by omega), if_neg (by omega)]; exact e11 f hf

theorem lnN_c (tp : Nat → Nat) (sz : Nat) (x : Nat × Nat × Nat) : (lnN tp sz x = 1 ∧ isX tp sz x wHei = true) ∨ (lnN tp sz x = 2 ∧ isX tp sz x wRoc = true) ∨ (lnN tp sz x = 3 ∧ isX tp sz x wLad = true) ∨ (lnN tp sz x = 4 ∧ isX tp sz x wQui = true) ∨ (lnN tp sz x = 5 ∧ isX tp sz x (wKnd 0) = true) ∨ (lnN tp sz x = 6 ∧ isX tp sz x (wKnd 1) = true) ∨ (lnN tp sz x = 7 ∧ isX tp sz x (wKnd 2) = true) ∨ (lnN tp sz x = 8 ∧ isX tp sz x (wKnd 3) = true) ∨ (lnN tp sz x = 9 ∧ isX tp sz x wQua = true) ∨ (lnN tp sz x = 10 ∧ isX tp sz x wMov = true) ∨ (lnN tp sz x = 11 ∧ isX tp sz x (wVal 3) = true) ∨ (lnN tp sz x = 12 ∧ isX tp sz x wEbb = true) ∨ (lnN tp sz x = 13 ∧ isX tp sz x wWai = true) ∨ (lnN tp sz x = 14 ∧ isX tp sz x wFog = true) ∨ (lnN tp sz x = 15 ∧ isX tp sz x wWat = true) ∨ (lnN tp sz x = 0 ∧ kLn tp sz x = 0 ∧ (∀ k, k < 4 → isX tp sz x (wKnd k) = false) ∧ ∀ cs, cs = wHei ∨ cs = wQua ∨ cs = wRoc ∨ cs = wLad ∨ cs = wQui → isX tp sz x cs = false) := by
  unfold lnN lnS
  by_cases a0 : isX tp sz x wHei = true
  · exact (Or.inl ⟨by rw [if_pos a0], a0⟩)
  by_cases a1 : isX tp sz x wRoc = true
  · exact (Or.inr (Or.inl ⟨by rw [if_neg a0, if_pos a1], a1⟩))
  by_cases a2 : isX tp sz x wLad = true
  · exact (Or.inr (Or.inr (Or.inl ⟨by rw [if_neg a0, if_neg a1, if_pos a2], a2⟩)))
  by_cases a3 : isX tp sz x wQui = true
  · exact (Or.inr (Or.inr (Or.inr (Or.inl ⟨by rw [if_neg a0, if_neg a1, if_neg a2, if_pos a3], a3⟩))))
  by_cases a4 : isX tp sz x (wKnd 0) = true
  · exact (Or.inr (Or.inr (Or.inr (Or.inr (Or.inl ⟨by rw [if_neg a0, if_neg a1, if_neg a2, if_neg a3, if_pos a4], a4⟩)))))
  by_cases a5 : isX tp sz x (wKnd 1) = true
  · exact (Or.inr (Or.inr (Or.inr (Or.inr (Or.inr (Or.inl ⟨by rw [if_neg a0, if_neg a1, if_neg a2, if_neg a3, if_neg a4, if_pos a5], a5⟩))))))
  by_cases a6 : isX tp sz x (wKnd 2) = true
  · exact (Or.inr (Or.inr (Or.inr (Or.inr (Or.inr (Or.inr (Or.inl ⟨by rw [if_neg a0, if_neg a1, if_neg a2, if_neg a3, if_neg a4, if_neg a5, if_pos a6], a6⟩)))))))
  by_cases a7 : isX tp sz x (wKnd 3) = true
  · exact (Or.inr (Or.inr (Or.inr (Or.inr (Or.inr (Or.inr (Or.inr (Or.inl ⟨by rw [if_neg a0, if_neg a1, if_neg a2, if_neg a3, if_neg a4, if_neg a5, if_neg a6, if_pos a7], a7⟩))))))))
  by_cases a8 : isX tp sz x wQua = true
  · exact (Or.inr (Or.inr (Or.inr (Or.inr (Or.inr (Or.inr (Or.inr (Or.inr (Or.inl ⟨by rw [if_neg a0, if_neg a1, if_neg a2, if_neg a3, if_neg a4, if_neg a5, if_neg a6, if_neg a7, if_pos a8], a8⟩)))))))))
  by_cases a9 : isX tp sz x wMov = true
  · exact (Or.inr (Or.inr (Or.inr (Or.inr (Or.inr (Or.inr (Or.inr (Or.inr (Or.inr (Or.inl ⟨by rw [if_neg a0, if_neg a1, if_neg a2, if_neg a3, if_neg a4, if_neg a5, if_neg a6, if_neg a7, if_neg a8, if_pos a9], a9⟩))))))))))
  by_cases a10 : isX tp sz x (wVal 3) = true
  · exact (Or.inr (Or.inr (Or.inr (Or.inr (Or.inr (Or.inr (Or.inr (Or.inr (Or.inr (Or.inr (Or.inl ⟨by rw [if_neg a0, if_neg a1, if_neg a2, if_neg a3, if_neg a4, if_neg a5, if_neg a6, if_neg a7, if_neg a8, if_neg a9, if_pos a10], a10⟩)))))))))))
  by_cases a11 : isX tp sz x wEbb = true
  · exact (Or.inr (Or.inr (Or.inr (Or.inr (Or.inr (Or.inr (Or.inr (Or.inr (Or.inr (Or.inr (Or.inr (Or.inl ⟨by rw [if_neg a0, if_neg a1, if_neg a2, if_neg a3, if_neg a4, if_neg a5, if_neg a6, if_neg a7, if_neg a8, if_neg a9, if_neg a10, if_pos a11], a11⟩))))))))))))
  by_cases a12 : isX tp sz x wWai = true
  · exact (Or.inr (Or.inr (Or.inr (Or.inr (Or.inr (Or.inr (Or.inr (Or.inr (Or.inr (Or.inr (Or.inr (Or.inr (Or.inl ⟨by rw [if_neg a0, if_neg a1, if_neg a2, if_neg a3, if_neg a4, if_neg a5, if_neg a6, if_neg a7, if_neg a8, if_neg a9, if_neg a10, if_neg a11, if_pos a12], a12⟩)))))))))))))
  by_cases a13 : isX tp sz x wFog = true
  · exact (Or.inr (Or.inr (Or.inr (Or.inr (Or.inr (Or.inr (Or.inr (Or.inr (Or.inr (Or.inr (Or.inr (Or.inr (Or.inr (Or.inl ⟨by rw [if_neg a0, if_neg a1, if_neg a2, if_neg a3, if_neg a4, if_neg a5, if_neg a6, if_neg a7, if_neg a8, if_neg a9, if_neg a10, if_neg a11, if_neg a12, if_pos a13], a13⟩))))))))))))))
  by_cases a14 : isX tp sz x wWat = true
  · exact (Or.inr (Or.inr (Or.inr (Or.inr (Or.inr (Or.inr (Or.inr (Or.inr (Or.inr (Or.inr (Or.inr (Or.inr (Or.inr (Or.inr (Or.inl ⟨by rw [if_neg a0, if_neg a1, if_neg a2, if_neg a3, if_neg a4, if_neg a5, if_neg a6, if_neg a7, if_neg a8, if_neg a9, if_neg a10, if_neg a11, if_neg a12, if_neg a13, if_pos a14], a14⟩)))))))))))))))
  refine (Or.inr (Or.inr (Or.inr (Or.inr (Or.inr (Or.inr (Or.inr (Or.inr (Or.inr (Or.inr (Or.inr (Or.inr (Or.inr (Or.inr (Or.inr ⟨by rw [if_neg a0, if_neg a1, if_neg a2, if_neg a3, if_neg a4, if_neg a5, if_neg a6, if_neg a7, if_neg a8, if_neg a9, if_neg a10, if_neg a11, if_neg a12, if_neg a13, if_neg a14], ?_, ?_, ?_⟩)))))))))))))))
  · unfold kLn; rw [if_neg a9, if_neg a10, if_neg a11, if_neg a12, if_neg a13, if_neg a14]
  · intro k hk
    have hk4 : k = 0 ∨ k = 1 ∨ k = 2 ∨ k = 3 := by omega
    rcases hk4 with rfl | rfl | rfl | rfl
    · exact Bool.eq_false_iff.mpr a4
    · exact Bool.eq_false_iff.mpr a5
    · exact Bool.eq_false_iff.mpr a6
    · exact Bool.eq_false_iff.mpr a7
  · intro cs hcs
    rcases hcs with rfl | rfl | rfl | rfl | rfl
    · exact Bool.eq_false_iff.mpr a0
    · exact Bool.eq_false_iff.mpr a8
    · exact Bool.eq_false_iff.mpr a1
    · exact Bool.eq_false_iff.mpr a2
    · exact Bool.eq_false_iff.mpr a3
end CZ14
