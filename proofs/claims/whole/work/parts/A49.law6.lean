/-! special cases of the law: sink, book -/
section SR
variable {w : jWD} {l : Launch} {n : Nat} {I J K : Nat → Nat → Int32} {L M : Nat → Nat → Int64} {R : Nat → Nat → Option Nat} {h g W H np len b s tn : Nat} {tp : Nat → Nat}
set_option maxHeartbeats 4000000 in
theorem kL_sink (hW : jWok w l) (hV : INV I L R) (x1 x2 : Int32) (z : Bool) : jCas w l mL_sink mX11_sink [.int x1, .int x2, .int (jb z)] (fun r => r.toInt64) n I L R := by
  obtain ⟨h, g, W, H, np, len, b, s, tn, tp, hv⟩ := hV
  have hRS := hv.rs
  by_cases hg : ltQ x1 (W * H) = true ∧ dayQ x2 = true
  · obtain ⟨g1, g2⟩ := hg
    obtain ⟨c, rfl, hc⟩ := ltQ_n g1
    obtain ⟨day, rfl, hd⟩ := dayQ_n g2
    have hd : day ≤ 40 := by omega
    have hs12 := hv.s12
    have main := tX10_sink (n := n) hW hRS hv.cx hv.ps.1 hs12 z hc hd
    generalize hJ0 : (if s = 12 then upI I 1059 2 (I 1059 2 + 1) else upI (upI (upI (upI I 1057 s (nI c)) 1058 s (nI day)) 1051 8 (if z = true then I 1051 8 ||| (1 <<< (nI s &&& 31)) else I 1051 8 &&& ((1 <<< (nI s &&& 31)) ^^^ (-1)))) 1051 9 (nI (s + 1))) = J0 at main
    have eJ : ∀ a j, a ≠ 1059 → ¬ (a = 1051 ∧ (j = 8 ∨ j = 9)) → a ≠ 1057 → a ≠ 1058 → J0 a j = I a j := fun a j h1 h2 h3 h4 => by
      rw [← hJ0]
      split
      · exact upI_nea h1
      · rw [upI_ne (by omega), upI_ne (by omega), upI_nea h4, upI_nea h3]
    have hJ : hR J0 = hR I := hR_C (fun a j h1 => eJ a j (by omega) (by omega) (by omega) (by omega))
    refine ⟨4, 3, 0, by decide, by decide, jCt_m (gL_sink hW (jCD_i (Q := fun r t => r = (if s = 12 then -1 else nI (s + 1)) ∧ t = (n, shE, J0, L, R)) main ⟨rfl, rfl⟩) (by rintro r t ⟨-, rfl⟩; exact ⟨n, J0, L, R, rfl⟩)) ?_⟩
    rintro v t ⟨rfl, r, n', J', M', R', ⟨r', rfl, rfl, q⟩, rfl⟩
    cases q
    refine ⟨rfl, n, J0, _, R, Nat.le_refl _, rfl, jCD_i (tX11_sink hW hRS (RI_h hv.cx.1.2.2.1 hJ) ((eJ _ _ (by omega) (by omega) (by omega) (by omega)).trans hv.ps.2.1.1) hs12 (jb z) hc hd) ?_⟩
    have ez : jb z &&& 1 = jb z := by cases z <;> rfl
    rw [ez]
    generalize hK : (if s = 12 then upI (upI J0 1069 2 0) 1083 2 (J0 1083 2 + 1) else upI (upI (upI (upI (upI J0 1069 2 0) 1104 s (nI c)) 1105 s (nI day)) 1106 s (jb z)) 1069 33 (nI (s + 1))) = K
    have eK : ∀ a j, ¬ (a = 1069 ∧ (j = 2 ∨ j = 33)) → ¬ (a = 1083) → ¬ (1104 ≤ a ∧ a ≤ 1106) → K a j = J0 a j := fun a j h1 h2 h3 => by
      rw [← hK]
      split
      · rw [upI_nea h2, upI_ne (by omega)]
      · rw [upI_ne (by omega), upI_nea (by omega), upI_nea (by omega), upI_nea (by omega), upI_ne (by omega)]
    have k2 : K 1069 2 = 0 := by
      rw [← hK]
      split
      · rw [upI_nea (by decide), upI_s]
      · rw [upI_j (by decide), upI_nea (by decide), upI_nea (by decide), upI_nea (by decide), upI_s]
    have cx : CX K (upL L 1118 0 (Int32.toInt64 (if s = 12 then -1 else nI (s + 1)))) R h (hR K) W H np len := by
      refine CX_o (CX_K hv.cx (fun a j h1 h2 => ?_)) (fun a j h1 h2 => ?_) (fun a j h1 h2 => upL_nea (by omega))
      · exact (eK a j (by omega) (by omega) (by omega)).trans (eJ a j (by omega) (by omega) (by omega) (by omega))
      · exact (eK a j (by omega) (by omega) (by omega)).trans (eJ a j (by omega) (by omega) (by omega) (by omega))
    refine ⟨K, rfl, k2, fun _ => upL_same _ _ _ _, ?_⟩
    by_cases z12 : s = 12
    · rw [if_pos z12] at hJ0 hK
      have e : ∀ a j, ¬ (a = 1069 ∧ j = 2) → ¬ (a = 1083 ∧ j = 2) → ¬ (a = 1059 ∧ j = 2) → K a j = I a j := fun a j h1 h2 h3 => by
        rw [← hK, upI_ne h2, upI_ne h1, ← hJ0, upI_ne h3]
      refine ⟨h, g, W, H, np, len, b, s, tn, tp, hv.rs, hv.hg, hv.r5, ?_, PT_f hv.wh.1 hv.wh.2 hv.pt (fun a j q => e a j (by omega) (by omega) (by omega)), CPk_f hv.cp (e _ _ (by omega) (by omega) (by omega)), PB_f hv.pb (fun a j q => e a j (by omega) (by omega) (by omega)), PS_f hv.ps (fun a j q => e a j (by omega) (by omega) (by omega)), PN_f hv.pn (fun a j q => e a j (by omega) (by omega) (by omega)), PF_f hv.pf (fun a j q => e a j (by omega) (by omega) (by omega)), PG_f hv.pg (fun a j q => e a j (by omega) (by omega) (by omega)), ?_, PW_f hv.pw (fun a j q => e a j (by omega) (by omega) (by omega)), PD_f hv.pd (fun a j q => e a j (by omega) (by omega) (by omega)), PI_f hv.pi (fun a j q => e a j (by omega) (by omega) (by omega))⟩
      · exact cx
      · intro j hj
        by_cases z2 : j = 2
        · subst z2
          have a1 : K 1059 2 = I 1059 2 + 1 := by rw [← hK, upI_nea (by decide), upI_nea (by decide), ← hJ0, upI_s]
          have a2 : K 1083 2 = I 1083 2 + 1 := by rw [← hK, upI_s, ← hJ0, upI_nea (by decide)]
          rw [a1, a2, hv.pc 2 (by decide)]
        · rw [e 1059 j (by omega) (by omega) (by omega), e 1083 j (by omega) (by omega) (by omega)]
          exact hv.pc j hj
    · rw [if_neg z12] at hJ0 hK
      have e : ∀ a j, ¬ (a = 1069 ∧ (j = 2 ∨ j = 33)) → ¬ (1104 ≤ a ∧ a ≤ 1106 ∧ j = s) → ¬ (a = 1051 ∧ (j = 8 ∨ j = 9)) → ¬ ((a = 1057 ∨ a = 1058) ∧ j = s) → K a j = I a j := fun a j h1 h2 h3 h4 => by
        rw [← hK, upI_ne (by omega), upI_ne (by omega), upI_ne (by omega), upI_ne (by omega), upI_ne (by omega), ← hJ0, upI_ne (by omega), upI_ne (by omega), upI_ne (by omega), upI_ne (by omega)]
      have hbit : ∀ i, i < s + 1 → ((K 1051 8 >>> (nI i &&& 31)) &&& 1) = K 1106 i := fun i hi => by
        have a8 : K 1051 8 = if z = true then I 1051 8 ||| (1 <<< (nI s &&& 31)) else I 1051 8 &&& ((1 <<< (nI s &&& 31)) ^^^ (-1)) := by
          rw [← hK, upI_nea (by decide), upI_nea (by decide), upI_nea (by decide), upI_nea (by decide), upI_nea (by decide), ← hJ0, upI_j (by decide), upI_s]
        have a6 : K 1106 i = if i = s then jb z else I 1106 i := by
          by_cases q : i = s
          · rw [if_pos q, q, ← hK, upI_nea (by decide), upI_s]
          · rw [if_neg q]; exact e _ _ (by omega) (by omega) (by omega) (by omega)
        rw [a8, a6]
        cases z with
        | true =>
          rw [if_pos rfl, bit_o _ s (by omega) i (by omega)]
          by_cases q : i = s
          · rw [if_pos q, if_pos q]; rfl
          · rw [if_neg q, if_neg q]; exact (hv.ps.2.2 i (by omega)).2.2
        | false =>
          rw [if_neg (by decide), bit_a _ s (by omega) i (by omega)]
          by_cases q : i = s
          · rw [if_pos q, if_pos q]; rfl
          · rw [if_neg q, if_neg q]; exact (hv.ps.2.2 i (by omega)).2.2
      have a4 : K 1104 s = nI c := by rw [← hK, upI_nea (by decide), upI_nea (by decide), upI_nea (by decide), upI_s]
      have a5 : K 1105 s = nI day := by rw [← hK, upI_nea (by decide), upI_nea (by decide), upI_s]
      have a6 : K 1106 s = jb z := by rw [← hK, upI_nea (by decide), upI_s]
      have c7 : K 1057 s = nI c := by rw [← hK, upI_nea (by decide), upI_nea (by decide), upI_nea (by decide), upI_nea (by decide), upI_nea (by decide), ← hJ0, upI_nea (by decide), upI_nea (by decide), upI_nea (by decide), upI_s]
      have c8 : K 1058 s = nI day := by rw [← hK, upI_nea (by decide), upI_nea (by decide), upI_nea (by decide), upI_nea (by decide), upI_nea (by decide), ← hJ0, upI_nea (by decide), upI_nea (by decide), upI_s]
      have hwh := hv.wh.1
      refine ⟨h, g, W, H, np, len, b, s + 1, tn, tp, hv.rs, hv.hg, hv.r5, ?_, PT_f hv.wh.1 hv.wh.2 hv.pt (fun a j q => e a j (by omega) (by omega) (by omega) (by omega)), CPk_f hv.cp (e _ _ (by omega) (by omega) (by omega) (by omega)), PB_f hv.pb (fun a j q => e a j (by omega) (by omega) (by omega) (by omega)), ?_, ?_, PF_f hv.pf (fun a j q => e a j (by omega) (by omega) (by omega) (by omega)), PG_f hv.pg (fun a j q => e a j (by omega) (by omega) (by omega) (by omega)), PC_f hv.pc (fun a j q => e a j (by omega) (by omega) (by omega) (by omega)), PW_f hv.pw (fun a j q => e a j (by omega) (by omega) (by omega) (by omega)), PD_f hv.pd (fun a j q => e a j (by omega) (by omega) (by omega) (by omega)), PI_f hv.pi (fun a j q => e a j (by omega) (by omega) (by omega) (by omega))⟩
      · exact cx
      · refine ⟨?_, ⟨by rw [← hK, upI_s], by omega, fun i hi => ?_⟩, fun i hi => ⟨?_, ?_, hbit i hi⟩⟩
        · rw [← hK, upI_nea (by decide), upI_nea (by decide), upI_nea (by decide), upI_nea (by decide), upI_nea (by decide), ← hJ0, upI_s]
        · by_cases q : i = s
          · subst q
            rw [a4, a5, a6, cN_nI (by omega), cN_nI (by omega)]
            exact ⟨⟨rfl, hc⟩, ⟨rfl, hd⟩, by cases z <;> simp [jb]⟩
          · rw [e 1104 i (by omega) (by omega) (by omega) (by omega), e 1105 i (by omega) (by omega) (by omega) (by omega), e 1106 i (by omega) (by omega) (by omega) (by omega)]
            exact hv.ps.2.1.2.2 i (by omega)
        · by_cases q : i = s
          · rw [q, c7, a4]
          · rw [e 1057 i (by omega) (by omega) (by omega) (by omega), e 1104 i (by omega) (by omega) (by omega) (by omega)]
            exact (hv.ps.2.2 i (by omega)).1
        · by_cases q : i = s
          · rw [q, c8, a5]
          · rw [e 1058 i (by omega) (by omega) (by omega) (by omega), e 1105 i (by omega) (by omega) (by omega) (by omega)]
            exact (hv.ps.2.2 i (by omega)).2.1
      · intro j hj
        rw [e 1117 j (by omega) (by omega) (by omega) (by omega)]
        refine ⟨?_, (hv.pn j hj).2⟩
        by_cases q : j = s
        · rw [q, a6, ez]
        · rw [e 1106 j (by omega) (by omega) (by omega) (by omega)]
          exact (hv.pn j hj).1
  · exact case_B hv (by decide) (by decide) (by decide) (bL_sink hW (tX10_sinkF hW hRS hv.cx x1 x2 (jb z) hg)) (fun n' => tX11_sinkF hW hRS hv.ri x1 x2 (jb z) hg)

theorem wW_lt {pace : Nat} {m : Nat → Nat → Bool} {s : Nat → Nat → Nat} {goal tick home : Nat} (hW : 3 ≤ W) (hH : 1 ≤ H) (hh : home < W * H) : ∀ k, (wW W H pace m s goal tick home k).1 < W * H
  | 0 => hh
  | k + 1 => by
    have ih := wW_lt (pace := pace) (m := m) (s := s) (goal := goal) (tick := tick) hW hH hh k
    rw [wW]
    split
    · dsimp only
      cases hx : nxU W H pace m s (wW W H pace m s goal tick home k).1 (tick + k) goal 4 with
      | none => exact Nat.lt_of_le_of_lt (Nat.zero_le _) ih
      | some x =>
        rcases nxU_cand hW 4 (Nat.le_refl _) x hx with ⟨q, -⟩ | ⟨w', -, q, -⟩
        · rw [q]; exact ih
        · exact nbr_lt hW hH ih q
    · exact ih
theorem wyF_lt {T : Nat → Nat → Int32} (hI : RI T W H np len) {p : Nat} (hp : p < np) (day : Nat) (wind : Int32) (tick k : Nat) : wyF T W H len day wind p tick k = nI (cN (wyF T W H len day wind p tick k)) ∧ cN (wyF T W H len day wind p tick k) < W * H := by
  have hT := RI.tq hI
  have hwh : W * H ≤ 9 * 7 := Nat.mul_le_mul hT.1.2 hT.2.1.2
  have hp9 := (hI.2.2.2.2.2.1 p hp).2.2.2.1.2
  have q : (wW W H (pcOf T p 0) (mP T W H len day wind p) (sn W H (pcOf T p 0) (mP T W H len day wind p)) (arr T W H len day wind p 0 tick) tick (W * cN (T 1079 p)) k).1 < W * H := wW_lt hT.1.1 hT.2.1.1 ((Nat.mul_lt_mul_left (show 0 < W from Nat.lt_of_lt_of_le (by decide) hT.1.1)).mpr hp9) k
  unfold wyF
  rw [cN_nI (by omega)]
  exact ⟨rfl, q⟩
theorem BkF_s {n0 m0 n0' m0' : Int32} {a1 a2 a3 a4 a5 t1 t2 t3 t4 t5 b1 b2 b3 b4 b5 u1 u2 u3 u4 u5 : Nat → Int32} {p day tick a : Nat} {wy : Nat → Int32} (hB : BkF n0 a1 a2 a3 a4 a5 m0 t1 t2 t3 t4 t5 W H np b) (hb : b < 12) (hp : p < np) (hn : np ≤ 6) (hd : day ≤ 40) (hta : tick ≤ a) (ha : a < 96) (hwy : ∀ k, wy k = nI (cN (wy k)) ∧ cN (wy k) < W * H)
    (e0 : n0' = nI (b + 1)) (f0 : m0' = nI (b + 1)) (e1 : ∀ i, i < b → b1 i = a1 i) (e2 : ∀ i, i < b → b2 i = a2 i) (e3 : ∀ i, i < b → b3 i = a3 i) (e4 : ∀ i, i < b → b4 i = a4 i) (e5 : ∀ k, k < 96 * b → b5 k = a5 k)
    (f1 : ∀ i, i < b → u1 i = t1 i) (f2 : ∀ i, i < b → u2 i = t2 i) (f3 : ∀ i, i < b → u3 i = t3 i) (f4 : ∀ i, i < b → u4 i = t4 i) (f5 : ∀ k, k < 96 * b → u5 k = t5 k)
    (g1 : b1 b = nI p) (g2 : b2 b = nI day) (g3 : b3 b = nI tick) (g4 : b4 b = nI a) (g5 : ∀ k, k < a - tick + 1 → b5 (b * 96 + tick + k) = wy k)
    (k1 : u1 b = nI p) (k2 : u2 b = nI day) (k3 : u3 b = nI tick) (k4 : u4 b = nI a) (k5 : ∀ k, k < a - tick + 1 → u5 (96 * b + tick + k) = wy k) (hdis : ∀ i, i < b → cN (t1 i) ≠ p) : BkF n0' b1 b2 b3 b4 b5 m0' u1 u2 u3 u4 u5 W H np (b + 1) := by
  obtain ⟨h0, ⟨h1, hb2, h2⟩, h3, h4⟩ := hB
  have c1 : cN (nI p) = p := cN_nI (by omega)
  have c2 : cN (nI day) = day := cN_nI (by omega)
  have c3 : cN (nI tick) = tick := cN_nI (by omega)
  have c4 : cN (nI a) = a := cN_nI (by omega)
  refine ⟨e0, ⟨f0, by omega, fun i hi => ?_⟩, fun i hi => ?_, fun i j hij hj => ?_⟩
  · by_cases q : i = b
    · subst q
      rw [k1, k2, k3, k4, c1, c2, c3, c4]
      refine ⟨⟨rfl, hp⟩, ⟨rfl, hd⟩, ⟨rfl, rfl, hta, ha⟩, fun j q1 q2 => ?_⟩
      have z := k5 (j - tick) (by omega)
      rw [show 96 * i + tick + (j - tick) = 96 * i + j by omega] at z
      rw [z]
      exact hwy _
    · have hi2 : i < b := by omega
      rw [f1 i hi2, f2 i hi2, f3 i hi2, f4 i hi2]
      obtain ⟨r1, r2, r3, r4⟩ := h2 i hi2
      exact ⟨r1, r2, r3, fun j q1 q2 => by rw [f5 _ (by omega)]; exact r4 j q1 q2⟩
  · by_cases q : i = b
    · subst q
      rw [k1, k2, k3, k4, g1, g2, g3, g4, c3, c4]
      refine ⟨rfl, rfl, rfl, rfl, fun t q1 q2 => ?_⟩
      have z := k5 (t - tick) (by omega)
      have z' := g5 (t - tick) (by omega)
      rw [show 96 * i + tick + (t - tick) = 96 * i + t by omega] at z
      rw [show i * 96 + tick + (t - tick) = i * 96 + t by omega] at z'
      rw [z, z']
    · have hi2 : i < b := by omega
      obtain ⟨r1, r2, r3, r4⟩ := h2 i hi2
      rw [e1 i hi2, e2 i hi2, e3 i hi2, e4 i hi2, f1 i hi2, f2 i hi2, f3 i hi2, f4 i hi2]
      obtain ⟨s1, s2, s3, s4, s5⟩ := h3 i hi2
      exact ⟨s1, s2, s3, s4, fun t q1 q2 => by rw [e5 _ (by omega), f5 _ (by omega)]; exact s5 t q1 q2⟩
  · by_cases q : j = b
    · subst q
      rw [f1 i hij, k1, c1]
      exact hdis i hij
    · rw [f1 i (by omega), f1 j (by omega)]
      exact h4 i j hij (by omega)

set_option maxHeartbeats 4000000 in
theorem kL_book (hW : jWok w l) (hV : INV I L R) (x1 x2 x3 : Int32) : jCas w l mL_book mX11_book [.int x1, .int x2, .int x3] (fun r => r.toInt64) n I L R := by
  obtain ⟨h, g, W, H, np, len, b, s, tn, tp, hv⟩ := hV
  have hRS := hv.rs
  by_cases hg : ltQ x1 np = true ∧ dayQ x2 = true ∧ tickQ x3 = true
  · obtain ⟨g1, g2, g3⟩ := hg
    obtain ⟨p, rfl, hp⟩ := ltQ_n g1
    obtain ⟨day, rfl, hd⟩ := dayQ_n g2
    obtain ⟨tick, rfl, ht⟩ := tickQ_n g3
    have hd : day ≤ 40 := by omega
    refine ⟨8, 6, 0, by decide, by decide, jCt_m (gL_book hW (tX10_book hW hRS hv.cx hv.lb hv.db hp hd ht) ?_) ?_⟩
    · rintro r t ⟨-, J, M, -, -, c1, c2⟩
      by_cases z : arr (hR I) W H len day (hR I 1072 7) p 0 tick = 1000 ∨ cbQ (hR I) b p day = false
      · exact ⟨_, _, _, _, (c1 z).1⟩
      · exact ⟨_, _, _, _, (c2 z).2.2.2.1⟩
    rintro v t ⟨rfl, r, n', J', M', R', ⟨r', rfl, rfl, J, M, e1, e2, c1, c2⟩, rfl⟩
    have hwy := wyF_lt hv.cx.1.2.2.1 hp day (hR I 1072 7) tick
    have hdis : cbQ (hR I) b p day = true → ∀ i, i < b → cN (I 1094 i) ≠ p := fun hq i hi he => by
      unfold cbQ at hq
      simp only [Bool.and_eq_true, Bool.not_eq_true'] at hq
      have q := anyN_f.mp hq.1.2 i hi
      have q2 : (decide (cN (I 1094 i) = p) || (decide (cN (I 1095 i) = day) && (cN (I 1081 p)).testBit (cN (I 1094 i)))) = false := q
      rw [decide_eq_true he] at q2
      cases q2
    generalize ha : arr (hR I) W H len day (hR I 1072 7) p 0 tick = a at c1 c2 ⊢
    by_cases z : a = 1000 ∨ cbQ (hR I) b p day = false
    · obtain ⟨q, cx⟩ := c1 z
      cases q
      have eJ2 : ∀ a' j, ¬ (a' = 1059 ∧ j = 1) → upI J 1059 1 (J 1059 1 + 1) a' j = J a' j := fun a' j h1 => upI_ne h1
      have j59 : upI J 1059 1 (J 1059 1 + 1) 1059 1 = I 1059 1 + 1 := by rw [upI_s, e1 1059 1 rfl]
      generalize upI J 1059 1 (J 1059 1 + 1) = J2 at cx eJ2 j59 ⊢
      have eJ : ∀ a' j, qk a' j → ¬ (a' = 1059 ∧ j = 1) → J2 a' j = I a' j := fun a' j h1 h2 => (eJ2 a' j h2).trans (eqC_D e1 a' j (qk_D h1))
      have hJ : hR J2 = hR I := (hR_C (fun a' j h1 => eJ2 a' j (by omega))).trans (hR_D (eqC_D e1))
      have ha' : arr J2 W H len day (J2 1072 7) p 0 tick = a := by rw [← ha, ← hJ, h_arr] <;> rfl
      have hc' : cbQ J2 b p day = cbQ (hR I) b p day := by rw [← hJ, h_cbQ]
      have rk : RK J2 W H np b := by
        have q : RK (hR J2) W H np b := by rw [hJ]; exact hv.lb.2.1
        exact q
      refine ⟨rfl, n, J2, _, R, Nat.le_refl _, rfl, jRi_m (tX11_book hW hRS (RI_h hv.cx.1.2.2.1 hJ) rk hp hd ht) ?_⟩
      rintro r t ⟨rfl, K, rfl, ek⟩
      rw [ha', hc', if_pos z] at ek
      rw [ha', hc']
      have e : ∀ a' j, qk a' j → ¬ (a' = 1059 ∧ j = 1) → ¬ (a' = 1083 ∧ j = 1) → K a' j = I a' j := fun a' j h1 h2 h3 => by
        rw [ek a' j (qk_s h1).1, upI_ne h3, upI_ne (qk_s h1).2]
        exact eJ a' j h1 h2
      refine ⟨K, rfl, ?_, fun _ => upL_same _ _ _ _, ⟨h, g, W, H, np, len, b, s, tn, tp, hv.rs, hv.hg, hv.r5, ?_, PT_f hv.wh.1 hv.wh.2 hv.pt (fun a j q => e a j (by unfold qk; omega) (by omega) (by omega)), CPk_f hv.cp (e _ _ (by unfold qk; omega) (by omega) (by omega)), PB_f hv.pb (fun a j q => e a j (by unfold qk; omega) (by omega) (by omega)), PS_f hv.ps (fun a j q => e a j (by unfold qk; omega) (by omega) (by omega)), PN_f hv.pn (fun a j q => e a j (by unfold qk; omega) (by omega) (by omega)), PF_f hv.pf (fun a j q => e a j (by unfold qk; omega) (by omega) (by omega)), PG_f hv.pg (fun a j q => e a j (by unfold qk; omega) (by omega) (by omega)), ?_, PW_f hv.pw (fun a j q => e a j (by unfold qk; omega) (by omega) (by omega)), PD_f hv.pd (fun a j q => e a j (by unfold qk; omega) (by omega) (by omega)), PI_f hv.pi (fun a j q => e a j (by unfold qk; omega) (by omega) (by omega))⟩⟩
      · rw [ek 1069 2 rfl, upI_nea (by decide), upI_s]
      · refine CX_o (CX_K cx (fun a' j h1 h2 => e a' j (by unfold qk; omega) (by omega) (by omega))) (fun a' j h1 h2 => ?_) (fun a' j h1 h2 => upL_nea (by omega))
        rw [ek a' j (by simp [scr]; omega), upI_nea (by omega), upI_nea (by omega)]
      · intro j hj
        by_cases z2 : j = 1
        · subst z2
          rw [ek 1059 1 rfl, upI_nea (by decide), upI_nea (by decide), j59, ek 1083 1 rfl, upI_s, eJ 1083 1 (by unfold qk; omega) (by omega), hv.pc 1 (by decide)]
        · rw [e 1059 j (by unfold qk; omega) (by omega) (by omega), e 1083 j (by unfold qk; omega) (by omega) (by omega)]
          exact hv.pc j hj
    · obtain ⟨q1, q2, q3, q, cx⟩ := c2 z
      cases q
      have z2 : cbQ (hR I) b p day = true := by
        cases hq : cbQ (hR I) b p day with
        | true => rfl
        | false => exact absurd (Or.inr hq) z
      generalize hJ2 : upI (flo (upI (upI (upI (upI J 1052 b (nI p)) 1053 b (nI day)) 1054 b (nI tick)) 1055 b (nI a)) 1056 (b * 96 + tick) (wyF (hR I) W H len day (hR I 1072 7) p tick) (a - tick + 1)) 1051 5 (nI (b + 1)) = J2 at cx ⊢
      have eJ2 : ∀ a' j, ¬ (a' = 1051 ∧ j = 5) → ¬ (1052 ≤ a' ∧ a' ≤ 1056) → J2 a' j = J a' j := fun a' j h1 h2 => by
        rw [← hJ2, upI_ne h1, flo_ne (by omega), upI_nea (by omega), upI_nea (by omega), upI_nea (by omega), upI_nea (by omega)]
      have hJ : hR J2 = hR I := (hR_C (fun a' j h1 => eJ2 a' j (by omega) (by omega))).trans (hR_D (eqC_D e1))
      have ha' : arr J2 W H len day (J2 1072 7) p 0 tick = a := by rw [← ha, ← hJ, h_arr] <;> rfl
      have hc' : cbQ J2 b p day = cbQ (hR I) b p day := by rw [← hJ, h_cbQ]
      have hw' : wyF J2 W H len day (J2 1072 7) p tick = wyF (hR I) W H len day (hR I 1072 7) p tick := by rw [← hJ, h_wyF] <;> rfl
      have rk : RK J2 W H np b := by
        have q : RK (hR J2) W H np b := by rw [hJ]; exact hv.lb.2.1
        exact q
      refine ⟨rfl, n, J2, _, R, Nat.le_refl _, rfl, jRi_m (tX11_book hW hRS (RI_h hv.cx.1.2.2.1 hJ) rk hp hd ht) ?_⟩
      rintro r t ⟨rfl, K, rfl, ek⟩
      rw [ha', hc', if_neg z, hw'] at ek
      rw [ha', hc']
      generalize hwf : wyF (hR I) W H len day (hR I 1072 7) p tick = wy at ek hJ2 hwy
      have eK : ∀ a' j, a' < 1069 → K a' j = J2 a' j := fun a' j h1 => by
        rw [ek a' j (by simp [scr]; omega), upI_nea (by omega), flo_ne (by omega), upI_nea (by omega), upI_nea (by omega), upI_nea (by omega), upI_nea (by omega), upI_nea (by omega)]
      have e : ∀ a' j, qk a' j → ¬ (a' = 1051 ∧ j = 5) → ¬ (1052 ≤ a' ∧ a' ≤ 1056) → ¬ (a' = 1069 ∧ j = 32) → ¬ (1094 ≤ a' ∧ a' ≤ 1098) → K a' j = I a' j := fun a' j h1 h2 h3 h4 h5 => by
        rw [ek a' j (qk_s h1).1, upI_ne h4, flo_ne (by omega), upI_nea (by omega), upI_nea (by omega), upI_nea (by omega), upI_nea (by omega), upI_ne (qk_s h1).2, eJ2 a' j h2 h3]
        exact eqC_D e1 a' j (qk_D h1)
      have jI : ∀ a' j, 1052 ≤ a' → a' ≤ 1056 → J a' j = I a' j := fun a' j h1 h2 => e1 a' j (by simp [scI]; omega)
      have jT : ∀ a' j, 1094 ≤ a' → a' ≤ 1098 → J2 a' j = I a' j := fun a' j h1 h2 => (eJ2 a' j (by omega) (by omega)).trans (e1 a' j (by simp [scI]; omega))
      have sc : ∀ a' j, 1094 ≤ a' → a' ≤ 1098 → scr a' j = false := fun a' j h1 h2 => by simp [scr]; omega
      refine ⟨K, rfl, ?_, fun _ => upL_same _ _ _ _, ⟨h, g, W, H, np, len, b + 1, s, tn, tp, hv.rs, hv.hg, hv.r5, ?_, PT_f hv.wh.1 hv.wh.2 hv.pt (fun a j q => e a j (by unfold qk; omega) (by omega) (by omega) (by omega) (by omega)), CPk_f hv.cp (e _ _ (by unfold qk; omega) (by omega) (by omega) (by omega) (by omega)), ?_, PS_f hv.ps (fun a j q => e a j (by unfold qk; omega) (by omega) (by omega) (by omega) (by omega)), PN_f hv.pn (fun a j q => e a j (by unfold qk; omega) (by omega) (by omega) (by omega) (by omega)), PF_f hv.pf (fun a j q => e a j (by unfold qk; omega) (by omega) (by omega) (by omega) (by omega)), PG_f hv.pg (fun a j q => e a j (by unfold qk; omega) (by omega) (by omega) (by omega) (by omega)), PC_f hv.pc (fun a j q => e a j (by unfold qk; omega) (by omega) (by omega) (by omega) (by omega)), PW_f hv.pw (fun a j q => e a j (by unfold qk; omega) (by omega) (by omega) (by omega) (by omega)), PD_f hv.pd (fun a j q => e a j (by unfold qk; omega) (by omega) (by omega) (by omega) (by omega)), PI_f hv.pi (fun a j q => e a j (by unfold qk; omega) (by omega) (by omega) (by omega) (by omega))⟩⟩
      · rw [ek 1069 2 rfl, upI_j (by decide), flo_ne (by decide), upI_nea (by decide), upI_nea (by decide), upI_nea (by decide), upI_nea (by decide), upI_s]
      · refine CX_o (CX_K cx (fun a' j h1 h2 => e a' j (by unfold qk; omega) (by omega) (by omega) (by omega) (by omega))) (fun a' j h1 h2 => eK a' j (by omega)) (fun a' j h1 h2 => upL_nea (by omega))
      · refine BkF_s (p := p) (day := day) (tick := tick) (a := a) (wy := wy) hv.pb q3 hp hv.wh.2 hd q1 q2 hwy ?_ ?_ (fun i hi => ?_) (fun i hi => ?_) (fun i hi => ?_) (fun i hi => ?_) (fun i hi => ?_) (fun i hi => ?_) (fun i hi => ?_) (fun i hi => ?_) (fun i hi => ?_) (fun i hi => ?_) ?_ ?_ ?_ ?_ (fun k hk => ?_) ?_ ?_ ?_ ?_ (fun k hk => ?_) (hdis z2)
        · rw [eK _ _ (by decide), ← hJ2, upI_s]
        · rw [ek 1069 32 rfl, upI_s]
        · rw [eK _ _ (by decide), ← hJ2, upI_nea (by decide), flo_ne (by decide), upI_nea (by decide), upI_nea (by decide), upI_nea (by decide), upI_j (by omega), jI _ _ (by decide) (by decide)]
        · rw [eK _ _ (by decide), ← hJ2, upI_nea (by decide), flo_ne (by decide), upI_nea (by decide), upI_nea (by decide), upI_j (by omega), upI_nea (by decide), jI _ _ (by decide) (by decide)]
        · rw [eK _ _ (by decide), ← hJ2, upI_nea (by decide), flo_ne (by decide), upI_nea (by decide), upI_j (by omega), upI_nea (by decide), upI_nea (by decide), jI _ _ (by decide) (by decide)]
        · rw [eK _ _ (by decide), ← hJ2, upI_nea (by decide), flo_ne (by decide), upI_j (by omega), upI_nea (by decide), upI_nea (by decide), upI_nea (by decide), jI _ _ (by decide) (by decide)]
        · rw [eK _ _ (by decide), ← hJ2, upI_nea (by decide)]
          unfold flo
          rw [if_neg (by omega), upI_nea (by decide), upI_nea (by decide), upI_nea (by decide), upI_nea (by decide), jI _ _ (by decide) (by decide)]
        · rw [ek _ _ (sc _ _ (by decide) (by decide)), upI_nea (by decide), flo_ne (by decide), upI_nea (by decide), upI_nea (by decide), upI_nea (by decide), upI_j (by omega), upI_nea (by decide), jT _ _ (by decide) (by decide)]
        · rw [ek _ _ (sc _ _ (by decide) (by decide)), upI_nea (by decide), flo_ne (by decide), upI_nea (by decide), upI_nea (by decide), upI_j (by omega), upI_nea (by decide), upI_nea (by decide), jT _ _ (by decide) (by decide)]
        · rw [ek _ _ (sc _ _ (by decide) (by decide)), upI_nea (by decide), flo_ne (by decide), upI_nea (by decide), upI_j (by omega), upI_nea (by decide), upI_nea (by decide), upI_nea (by decide), jT _ _ (by decide) (by decide)]
        · rw [ek _ _ (sc _ _ (by decide) (by decide)), upI_nea (by decide), flo_ne (by decide), upI_j (by omega), upI_nea (by decide), upI_nea (by decide), upI_nea (by decide), upI_nea (by decide), jT _ _ (by decide) (by decide)]
        · rw [ek _ _ (sc _ _ (by decide) (by decide)), upI_nea (by decide)]
          unfold flo
          rw [if_neg (by omega), upI_nea (by decide), upI_nea (by decide), upI_nea (by decide), upI_nea (by decide), upI_nea (by decide), jT _ _ (by decide) (by decide)]
        · rw [eK _ _ (by decide), ← hJ2, upI_nea (by decide), flo_ne (by decide), upI_nea (by decide), upI_nea (by decide), upI_nea (by decide), upI_s]
        · rw [eK _ _ (by decide), ← hJ2, upI_nea (by decide), flo_ne (by decide), upI_nea (by decide), upI_nea (by decide), upI_s]
        · rw [eK _ _ (by decide), ← hJ2, upI_nea (by decide), flo_ne (by decide), upI_nea (by decide), upI_s]
        · rw [eK _ _ (by decide), ← hJ2, upI_nea (by decide), flo_ne (by decide), upI_s]
        · rw [eK _ _ (by decide), ← hJ2, upI_nea (by decide)]
          unfold flo
          rw [if_pos (by omega), show b * 96 + tick + k - (b * 96 + tick) = k by omega]
        · rw [ek _ _ (sc _ _ (by decide) (by decide)), upI_nea (by decide), flo_ne (by decide), upI_nea (by decide), upI_nea (by decide), upI_nea (by decide), upI_s]
        · rw [ek _ _ (sc _ _ (by decide) (by decide)), upI_nea (by decide), flo_ne (by decide), upI_nea (by decide), upI_nea (by decide), upI_s]
        · rw [ek _ _ (sc _ _ (by decide) (by decide)), upI_nea (by decide), flo_ne (by decide), upI_nea (by decide), upI_s]
        · rw [ek _ _ (sc _ _ (by decide) (by decide)), upI_nea (by decide), flo_ne (by decide), upI_s]
        · rw [ek _ _ (sc _ _ (by decide) (by decide)), upI_nea (by decide)]
          unfold flo
          rw [if_pos (by omega), show 96 * b + tick + k - (96 * b + tick) = k by omega]
  · exact case_B hv (by decide) (by decide) (by decide) (bL_book hW (tX10_bookF hW hRS hv.cx x1 x2 x3 hg)) (fun n' => tX11_bookF hW hRS hv.ri x1 x2 x3 hg)

end SR
