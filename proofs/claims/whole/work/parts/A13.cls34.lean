/-! THE CLASS: the rule reader, parts -/
section CZ9
variable {w : jWD} {l : Launch} {n : Nat} {I J K : Nat → Nat → Int32} {L M : Nat → Nat → Int64} {R : Nat → Nat → Option Nat} {sz : Nat} {tp : Nat → Nat} {x : Nat × Nat × Nat} {h : Nat} {code wt : List Int32} {d nt cp : Nat} {eb nm pd : Bool} {s : Rst}
def eqK (h : Nat) (I J : Nat → Nat → Int32) : Prop := ∀ b j : Nat, b ≠ 1006 → b ≠ 1007 → b ≠ h + 5 → b ≠ h + 6 → J b j = I b j
def eqQ (h : Nat) (I J : Nat → Nat → Int32) : Prop := ∀ b j : Nat, tkR b j = false → b ≠ 1006 → b ≠ 1007 → b ≠ h + 5 → b ≠ h + 6 → J b j = I b j
theorem eqK_r : eqK h I I := fun _ _ _ _ _ _ => rfl
theorem eqQ_r : eqQ h I I := fun _ _ _ _ _ _ _ => rfl
theorem eqK_t (h1 : eqK h I J) (h2 : eqK h J K) : eqK h I K := fun b j a1 a2 a3 a4 => (h2 b j a1 a2 a3 a4).trans (h1 b j a1 a2 a3 a4)
theorem eqQ_t (h1 : eqQ h I J) (h2 : eqQ h J K) : eqQ h I K := fun b j a0 a1 a2 a3 a4 => (h2 b j a0 a1 a2 a3 a4).trans (h1 b j a0 a1 a2 a3 a4)
theorem eqK_Q (h1 : eqK h I J) : eqQ h I J := fun b j _ a1 a2 a3 a4 => h1 b j a1 a2 a3 a4
theorem eqR_Q (h1 : eqR I J) : eqQ h I J := fun b j a0 _ _ _ _ => h1 b j a0
theorem eqK_u {k : Nat} {v : Int32} (h1 : eqK h I J) : eqK h I (upI J 1006 k v) := fun b j a1 a2 a3 a4 => (upI_nea a1).trans (h1 b j a1 a2 a3 a4)
theorem C3.k (hx : C3 I sz tp x) (hh : h = 1008 ∨ h = 1024) (f : eqK h I J) : C3 J sz tp x := hx.f (fun j => f 1005 j (by decide) (by decide) (by omega) (by omega)) (fun j => f 1001 j (by decide) (by decide) (by omega) (by omega))
theorem RRc.r (hS : RRc I h s) (hh : h = 1008 ∨ h = 1024) (f : eqR I J) : RRc J h s := ⟨hS.1.f (fun j => f _ j (tkR_a (by omega) j)) (fun j => f _ j (tkR_a (by omega) j)), hS.2.1.f (f _ _ (by decide)) (fun j => f _ j (tkR_a (by decide) j)), hS.2.2.f (fun j _ => f _ j (tkR_a (by decide) j))⟩
def CPk (J : Nat → Nat → Int32) : Prop := ∃ c, J 1006 6 = nI c ∧ c < 128
theorem CPk.r (hc : CPk I) (f : eqR I J) : CPk J := by
  obtain ⟨c, a, b⟩ := hc
  exact ⟨c, (f 1006 6 (by decide)).trans a, b⟩
theorem RRc.c (hS : RRc I h s) : CPk I := ⟨_, hS.2.2.2.2.1.1, hS.2.2.2.2.1.2⟩
/-- what a step of the rule reader comes to -/
def StQ (n : Nat) (R : Nat → Nat → Option Nat) (sz : Nat) (tp : Nat → Nat) (h : Nat) (I : Nat → Nat → Int32) (L : Nat → Nat → Int64) (x : Nat × Nat × Nat) (q : Nat × Rst) (r : Int32) (t : jHS) : Prop := ∃ J, t = (n, shE, J, L, R) ∧ eqQ h I J ∧ (if q.1 = 0 then C3 J sz tp x ∧ RRc J h q.2 else C3 J sz tp (pWr q.1 x)) ∧ CPk J ∧ r = jb (decide (q.1 = 0))
theorem StQ_b {q : Nat × Rst} {k : Nat} {u : Rst} (hq : q = (k, u)) (hk : k ≠ 0) (f : eqQ h I J) (c : C3 J sz tp (pWr k x)) (hc : CPk J) : StQ n R sz tp h I L x q (jb false) (n, shE, J, L, R) := by
  subst hq
  exact ⟨J, rfl, f, by rw [if_neg hk]; exact c, hc, by rw [decide_eq_false hk]⟩
theorem StQ_g {q : Nat × Rst} {u : Rst} (hq : q = (0, u)) (f : eqQ h I J) (c : C3 J sz tp x) (hS : RRc J h u) : StQ n R sz tp h I L x q (jb true) (n, shE, J, L, R) := by
  subst hq
  exact ⟨J, rfl, f, by rw [if_pos rfl]; exact ⟨c, hS⟩, hS.c, rfl⟩
theorem StQ_f {q : Nat × Rst} {r : Int32} {t : jHS} (f : eqQ h I J) (hq : StQ n R sz tp h J L x q r t) : StQ n R sz tp h I L x q r t := by
  obtain ⟨K, e, g, c, z⟩ := hq
  exact ⟨K, e, eqQ_t f g, c, z⟩
theorem StQ_c {q q' : Nat × Rst} {r : Int32} {t : jHS} (h1 : q'.1 = q.1) (h2 : q.1 = 0 → q'.2 = q.2) (hq : StQ n R sz tp h I L x q r t) : StQ n R sz tp h I L x q' r t := by
  obtain ⟨K, e, g, c, z⟩ := hq
  refine ⟨K, e, g, ?_, by rw [h1]; exact z⟩
  by_cases hz : q.1 = 0
  · rw [if_pos (h1.trans hz), h2 hz]; rw [if_pos hz] at c; exact c
  · rw [if_neg (by rw [h1]; exact hz), h1]; rw [if_neg hz] at c; exact c
def pNum (tp : Nat → Nat) (sz : Nat) (x : X3t) (s : Rst) : Nat × Rst := if numC tp sz x.1 0 9999 = 0 then (0, (adC s.1 (nI (vNu tp sz 0 9999 x)), s.2.1, s.2.2.1, s.2.2.2.1, s.2.2.2.2.1, s.2.2.2.2.2.1, s.2.2.2.2.2.2.1, false)) else (numC tp sz x.1 0 9999, s)
def pNot (s : Rst) : Nat × Rst := if 6 < s.2.2.2.1 + 1 then (2, s) else (0, (s.1, hdW s.2.1 (-7), s.2.2.1, s.2.2.2.1 + 1, s.2.2.2.2.1, s.2.2.2.2.2.1, s.2.2.2.2.2.2.1, s.2.2.2.2.2.2.2))
def pVal (tp : Nat → Nat) (sz : Nat) (x : X3t) (s : Rst) : Nat × Rst := match valX tp sz x with
  | some v => (0, (adC s.1 (-1 - nI v), s.2.1, s.2.2.1, s.2.2.2.1, s.2.2.2.2.1, s.2.2.2.2.2.1, s.2.2.2.2.2.2.1, false))
  | none => (3, s)

set_option maxHeartbeats 1000000 in
set_option maxRecDepth 20000 in
theorem tX7_readNumber (hW : jWok w l) (hR : RS R) (hh : h = 1008 ∨ h = 1024) (hRt : R 1006 3 = some (h + 5)) (hx : C3 I sz tp x) (h0 : x.2.1 = 0) (hS : RRc I h (code, wt, d, nt, cp, eb, nm, pd)) (hd5 : d ≤ 5) : jRi w l mX7_readNumber 3 [.ref 1006] (n, shE, I, L, R) (StQ n R sz tp h I L x (pNum tp sz x (code, wt, d, nt, cp, eb, nm, pd))) := by
  refine jRi_of hW (by decide) rfl (Nat.le_of_ble_eq_true rfl) ?_
  have hw : (pNw tp sz 0 9999 x).2.1 = 0 ↔ numC tp sz x.1 0 9999 = 0 := by
    unfold pNw
    rw [if_pos h0]
    by_cases e : numC tp sz x.1 0 9999 = 0
    · rw [if_pos e]; exact ⟨fun _ => e, fun _ => h0⟩
    · rw [if_neg e]
  rcases hh with rfl | rfl
  all_goals
    refine jx_aload_n dX7_readNumber_0 rfl ?_
    refine jx_getR dX7_readNumber_1 flX7_15 rfl rfl (hR _ _ _ rfl) ?_
    refine jx_iconst (v := 0) dX7_readNumber_4 (by decide) ?_
    refine jx_sipush (v := 9999) dX7_readNumber_5 (by decide) ?_
    refine jx_VRi (as := [.int _, .int _]) dX7_readNumber_8 mlX7_93 okX9_isNumber viX9_isNumber rfl rfl rfl rfl rfl (by decide) (Nat.le_of_ble_eq_true rfl) (tX9_isNumber_x (lo := 0) (hi := 9999) hW hR hx h0 (by decide) (by decide)) (fun x8 t8 hq8 => ?_)
    obtain ⟨J1, rfl, fJ1, gJ1, vJ1, rfl⟩ := hq8
    have s1 := hS.r (by decide) fJ1
    refine jx_ifB_ne 16 dX7_readNumber_11 (by decide) (fun h11 => ?_) (fun h11 => ?_)
    · have hz := of_decide_eq_true h11
      have hn := hw.mp hz
      rw [(pNw_0 h0 hz).1] at gJ1
      refine jx_aload_n dX7_readNumber_16 rfl ?_
      refine jx_getR dX7_readNumber_17 flX7_19 rfl rfl hRt ?_
      refine jx_aload_n dX7_readNumber_20 rfl ?_
      refine jx_getR dX7_readNumber_21 flX7_15 rfl rfl (hR _ _ _ rfl) ?_
      refine jx_getIE dX7_readNumber_24 flX7_97 rfl rfl (vJ1 hz) ?_
      refine jx_VRv (as := [.int _]) dX7_readNumber_27 mlX7_100 okX6_add viX6_add rfl rfl rfl rfl rfl (by decide) (Nat.le_of_ble_eq_true rfl) (tX6_add hW hR (by decide) s1.1) (fun t27 hq27 => ?_)
      obtain ⟨K2, rfl, a2, f2⟩ := hq27
      refine jx_aload_n dX7_readNumber_30 rfl ?_
      refine jx_iconst (v := 0) dX7_readNumber_31 (by decide) ?_
      refine jx_putZ dX7_readNumber_32 flX7_33 rfl rfl (fun r h => by cases h; rfl) (by first | exact Or.inl rfl | exact Or.inr rfl | exact jb_or _) ?_
      refine jx_iconst (v := 1) dX7_readNumber_35 (by decide) ?_
      refine jx_zret dX7_readNumber_36 rfl ?_ ?_
      · first | exact Or.inl rfl | exact Or.inr rfl | exact jb_or _
      have kk : eqK _ J1 (upI K2 1006 9 0) := eqK_u (fun b j a1 a2 a3 a4 => f2 b j a3 a4)
      have g6 : ∀ j, K2 1006 j = J1 1006 j := fun j => f2 1006 j (by decide) (by decide)
      obtain ⟨F1, F2, F3, F4, F5, F6⟩ := s1.2.2
      exact ⟨_, rfl, StQ_g (u := (adC code (nI (vNu tp sz 0 9999 x)), wt, d, nt, cp, eb, nm, false)) (by unfold pNum; exact if_pos hn) (eqQ_t (eqR_Q fJ1) (eqK_Q kk)) (gJ1.k (by decide) kk) ⟨a2.f (J := upI K2 1006 9 0) (fun _ => upI_nea (by decide)) (fun _ => upI_nea (by decide)), s1.2.1.f (J := upI K2 1006 9 0) (g6 2) (fun j => f2 1007 j (by decide) (by decide)), ⟨(g6 4).trans F1.1, F1.2.1, fun q => by have q : d = 6 := q; omega⟩, ⟨(g6 5).trans F2.1, F2.2⟩, ⟨(g6 6).trans F3.1, F3.2⟩, (g6 7).trans F4, (g6 8).trans F5, rfl⟩⟩
    · have hz := of_decide_eq_false h11
      have hn : numC tp sz x.1 0 9999 ≠ 0 := fun q => hz (hw.mpr q)
      have hpw : pNw tp sz 0 9999 x = pWr (numC tp sz x.1 0 9999) x := by unfold pNw pWr; rw [if_pos h0, if_neg hn, if_pos h0]
      rw [hpw] at gJ1
      refine jx_iconst (v := 0) dX7_readNumber_14 (by decide) ?_
      refine jx_zret dX7_readNumber_15 rfl ?_ ?_
      · first | exact Or.inl rfl | exact Or.inr rfl | exact jb_or _
      exact ⟨_, rfl, StQ_b (by unfold pNum; exact if_neg hn) hn (eqR_Q fJ1) gJ1 (hS.c.r fJ1)⟩
set_option maxHeartbeats 1000000 in
set_option maxRecDepth 20000 in
theorem tX7_readNot (hW : jWok w l) (hR : RS R) (hh : h = 1008 ∨ h = 1024) (hRt : R 1006 3 = some (h + 5)) (hx : C3 I sz tp x) (h0 : x.2.1 = 0) (hS : RRc I h (code, wt, d, nt, cp, eb, nm, pd)) : jRi w l mX7_readNot 2 [.ref 1006] (n, shE, I, L, R) (StQ n R sz tp h I L x (pNot (code, wt, d, nt, cp, eb, nm, pd))) := by
  refine jRi_of hW (by decide) rfl (Nat.le_of_ble_eq_true rfl) ?_
  have hS0 := hS
  obtain ⟨F1, F2, F3, F4, F5, F6⟩ := hS.2.2
  have F22 : nt ≤ 6 := F2.2
  have kk : eqK h I (upI I 1006 5 (nI (nt + 1))) := eqK_u eqK_r
  rcases hh with rfl | rfl
  all_goals
    refine jx_aload_n dX7_readNot_0 rfl ?_
    refine jx_dup dX7_readNot_1 rfl ?_
    refine jx_getIE dX7_readNot_2 flX7_69 rfl rfl (F2.1) ?_
    refine jx_iconst (v := 1) dX7_readNot_5 (by decide) ?_
    refine jx_iaddE (z := nI (nt + 1)) dX7_readNot_6 (nI_add nt 1) ?_
    refine jx_putI dX7_readNot_7 flX7_69 rfl rfl (fun r h => by cases h; rfl) ?_
    refine jx_aload_n dX7_readNot_10 rfl ?_
    refine jx_getIE dX7_readNot_11 flX7_69 rfl rfl (upI_s) ?_
    refine jx_bipush (v := 6) dX7_readNot_14 (by decide) ?_
    refine jx_icmpN_le (a := (nt + 1)) (b := 6) 28 dX7_readNot_16 (by decide) (by omega) (by omega) (fun h16 => ?_) (fun h16 => ?_)
    · refine jx_aload_n dX7_readNot_28 rfl ?_
      refine jx_bipush (v := -7) dX7_readNot_29 (by decide) ?_
      refine jx_VRv (as := [.int _]) dX7_readNot_31 mlX7_75 okX7_hold viX7_hold rfl rfl rfl rfl rfl (by decide) (Nat.le_of_ble_eq_true rfl) (tX7_hold hW hR (hS.2.1.f (J := upI I 1006 5 (nI (nt + 1))) rfl (fun _ => rfl))) (fun t31 hq31 => ?_)
      obtain ⟨K2, rfl, a2, f2⟩ := hq31
      refine jx_iconst (v := 1) dX7_readNot_34 (by decide) ?_
      refine jx_zret dX7_readNot_35 rfl ?_ ?_
      · first | exact Or.inl rfl | exact Or.inr rfl | exact jb_or _
      have k2 := eqK_t kk (fun b j a1 a2 a3 a4 => f2 b j a2 (fun q => a1 q.1))
      have g6 : ∀ j, 4 ≤ j → K2 1006 j = upI I 1006 5 (nI (nt + 1)) 1006 j := fun j hj => f2 1006 j (by decide) (fun q => by omega)
      exact ⟨_, rfl, StQ_g (u := (code, hdW wt (-7), d, nt + 1, cp, eb, nm, pd)) (by unfold pNot; exact if_neg (by show ¬ 6 < nt + 1; omega)) (eqK_Q k2) (hx.k (by decide) k2) ⟨hS.1.f (fun j => (f2 _ _ (by decide) (fun q => absurd q.1 (by decide))).trans (upI_nea (by decide))) (fun j => (f2 _ _ (by decide) (fun q => absurd q.1 (by decide))).trans (upI_nea (by decide))), a2, ⟨(g6 4 (by decide)).trans F1.1, F1.2⟩, ⟨g6 5 (by decide), by show nt + 1 ≤ 6; omega⟩, ⟨(g6 6 (by decide)).trans F3.1, F3.2⟩, (g6 7 (by decide)).trans F4, (g6 8 (by decide)).trans F5, (g6 9 (by decide)).trans F6⟩⟩
    · refine jx_aload_n dX7_readNot_19 rfl ?_
      refine jx_getR dX7_readNot_20 flX7_15 rfl rfl (hR _ _ _ rfl) ?_
      refine jx_iconst (v := 2) dX7_readNot_23 (by decide) ?_
      refine jx_VRi (as := [.int _]) dX7_readNot_24 mlX7_56 okX9_refuse viX9_refuse rfl rfl rfl rfl rfl (by decide) (Nat.le_of_ble_eq_true rfl) (tX9_refuse_x (k := 2) hW hR (hx.k (by decide) kk) h0 (by decide)) (fun x24 t24 hq24 => ?_)
      obtain ⟨J2, rfl, fJ2, gJ2, rfl⟩ := hq24
      refine jx_zret dX7_readNot_27 rfl ?_ ?_
      · first | exact Or.inl rfl | exact Or.inr rfl | exact jb_or _
      exact ⟨_, rfl, StQ_b (k := 2) (u := (code, wt, d, nt, cp, eb, nm, pd)) (by unfold pNot; exact if_pos (by show 6 < nt + 1; omega)) (by decide) (eqQ_t (eqK_Q kk) (eqR_Q fJ2)) gJ2 (CPk.r (I := upI I 1006 5 (nI (nt + 1))) ⟨cp, F3.1, F3.2⟩ fJ2)⟩
set_option maxHeartbeats 1000000 in
set_option maxRecDepth 20000 in
theorem tX7_readValue (hW : jWok w l) (hR : RS R) (hh : h = 1008 ∨ h = 1024) (hRt : R 1006 3 = some (h + 5)) (hx : C3 I sz tp x) (h0 : x.2.1 = 0) (hS : RRc I h (code, wt, d, nt, cp, eb, nm, pd)) (hd5 : d ≤ 5) : jRi w l mX7_readValue 6 [.ref 1006] (n, shE, I, L, R) (StQ n R sz tp h I L x (pVal tp sz x (code, wt, d, nt, cp, eb, nm, pd))) := by
  refine jRi_of hW (by decide) rfl (Nat.le_of_ble_eq_true rfl) ?_
  obtain ⟨F1, F2, F3, F4, F5, F6⟩ := hS.2.2
  rcases hh with rfl | rfl
  all_goals
    refine jx_aload_n dX7_readValue_0 rfl ?_
    refine jx_getR dX7_readValue_1 flX7_15 rfl rfl (hR _ _ _ rfl) ?_
    refine jx_ldcS 18 dX7_readValue_4 rfl rfl rfl (by decide) ?_
    refine jx_Vi (as := [.ref _]) dX7_readValue_6 mlX7_83 okX9_isWord viX9_isWord rfl rfl rfl rfl rfl (by decide) (Nat.le_of_ble_eq_true rfl) (tX9_isWord_x hW hR hx h0 (i := 18) (cs := wVal 0) ⟨by decide, ⟨_, rfl, rfl⟩, by decide, by decide⟩) ?_
    refine jx_ifB_eq 23 dX7_readValue_9 (by decide) (fun h9 => ?_) (fun h9 => ?_)
    · refine jx_aload_n dX7_readValue_23 rfl ?_
      refine jx_getR dX7_readValue_24 flX7_15 rfl rfl (hR _ _ _ rfl) ?_
      refine jx_ldcS 19 dX7_readValue_27 rfl rfl rfl (by decide) ?_
      refine jx_Vi (as := [.ref _]) dX7_readValue_29 mlX7_83 okX9_isWord viX9_isWord rfl rfl rfl rfl rfl (by decide) (Nat.le_of_ble_eq_true rfl) (tX9_isWord_x hW hR hx h0 (i := 19) (cs := wVal 1) ⟨by decide, ⟨_, rfl, rfl⟩, by decide, by decide⟩) ?_
      refine jx_ifB_eq 47 dX7_readValue_32 (by decide) (fun h32 => ?_) (fun h32 => ?_)
      · refine jx_aload_n dX7_readValue_47 rfl ?_
        refine jx_getR dX7_readValue_48 flX7_15 rfl rfl (hR _ _ _ rfl) ?_
        refine jx_ldcS 20 dX7_readValue_51 rfl rfl rfl (by decide) ?_
        refine jx_Vi (as := [.ref _]) dX7_readValue_53 mlX7_83 okX9_isWord viX9_isWord rfl rfl rfl rfl rfl (by decide) (Nat.le_of_ble_eq_true rfl) (tX9_isWord_x hW hR hx h0 (i := 20) (cs := wVal 2) ⟨by decide, ⟨_, rfl, rfl⟩, by decide, by decide⟩) ?_
        refine jx_ifB_eq 71 dX7_readValue_56 (by decide) (fun h56 => ?_) (fun h56 => ?_)
        · refine jx_aload_n dX7_readValue_71 rfl ?_
          refine jx_getR dX7_readValue_72 flX7_15 rfl rfl (hR _ _ _ rfl) ?_
          refine jx_ldcS 21 dX7_readValue_75 rfl rfl rfl (by decide) ?_
          refine jx_Vi (as := [.ref _]) dX7_readValue_77 mlX7_83 okX9_isWord viX9_isWord rfl rfl rfl rfl rfl (by decide) (Nat.le_of_ble_eq_true rfl) (tX9_isWord_x hW hR hx h0 (i := 21) (cs := wVal 3) ⟨by decide, ⟨_, rfl, rfl⟩, by decide, by decide⟩) ?_
          refine jx_ifB_eq 95 dX7_readValue_80 (by decide) (fun h80 => ?_) (fun h80 => ?_)
          · have hv : valX tp sz x = none := fnd_none.mpr (fun j hj => by
              have hj4 : j = 0 ∨ j = 1 ∨ j = 2 ∨ j = 3 := by omega
              rcases hj4 with rfl | rfl | rfl | rfl
              · exact h9
              · exact h32
              · exact h56
              · exact h80)
            refine jx_aload_n dX7_readValue_95 rfl ?_
            refine jx_getR dX7_readValue_96 flX7_15 rfl rfl (hR _ _ _ rfl) ?_
            refine jx_iconst (v := 3) dX7_readValue_99 (by decide) ?_
            refine jx_VRi (as := [.int _]) dX7_readValue_100 mlX7_56 okX9_refuse viX9_refuse rfl rfl rfl rfl rfl (by decide) (Nat.le_of_ble_eq_true rfl) (tX9_refuse_x (k := 3) hW hR hx h0 (by decide)) (fun x100 t100 hq100 => ?_)
            obtain ⟨J2, rfl, fJ2, gJ2, rfl⟩ := hq100
            refine jx_zret dX7_readValue_103 rfl ?_ ?_
            · first | exact Or.inl rfl | exact Or.inr rfl | exact jb_or _
            exact ⟨_, rfl, StQ_b (k := 3) (u := (code, wt, d, nt, cp, eb, nm, pd)) (by unfold pVal; rw [hv]) (by decide) (eqR_Q fJ2) gJ2 (hS.c.r fJ2)⟩
          · have hv : valX tp sz x = some 3 := fnd_some.mpr ⟨by decide, h80, fun j hj => by
              have hj4 : j = 0 ∨ j = 1 ∨ j = 2 := by omega
              rcases hj4 with rfl | rfl | rfl
              · exact h9
              · exact h32
              · exact h56⟩
            refine jx_aload_n dX7_readValue_83 rfl ?_
            refine jx_getR dX7_readValue_84 flX7_19 rfl rfl hRt ?_
            refine jx_bipush (v := -4) dX7_readValue_87 (by decide) ?_
            refine jx_VRv (as := [.int _]) dX7_readValue_89 mlX7_100 okX6_add viX6_add rfl rfl rfl rfl rfl (by decide) (Nat.le_of_ble_eq_true rfl) (tX6_add hW hR (by decide) hS.1) (fun t89 hq89 => ?_)
            obtain ⟨K2, rfl, a2, f2⟩ := hq89
            refine jx_goto 104 dX7_readValue_92 (by decide) ?_
            refine jx_aload_n dX7_readValue_104 rfl ?_
            refine jx_iconst (v := 0) dX7_readValue_105 (by decide) ?_
            refine jx_putZ dX7_readValue_106 flX7_33 rfl rfl (fun r h => by cases h; rfl) (by first | exact Or.inl rfl | exact Or.inr rfl | exact jb_or _) ?_
            refine jx_iconst (v := 1) dX7_readValue_109 (by decide) ?_
            refine jx_zret dX7_readValue_110 rfl ?_ ?_
            · first | exact Or.inl rfl | exact Or.inr rfl | exact jb_or _
            have kk : eqK _ I (upI K2 1006 9 0) := eqK_u (fun b j a1 a2 a3 a4 => f2 b j a3 a4)
            have g6 : ∀ j, K2 1006 j = I 1006 j := fun j => f2 1006 j (by decide) (by decide)
            exact ⟨_, rfl, StQ_g (u := (adC code (-4), wt, d, nt, cp, eb, nm, false)) (by unfold pVal; rw [hv]; show (0, (adC code (-1 - nI 3), wt, d, nt, cp, eb, nm, false)) = _; rw [show (-1 - nI 3 : Int32) = -4 by decide]) (eqK_Q kk) (hx.k (by decide) kk) ⟨a2.f (J := upI K2 1006 9 0) (fun _ => upI_nea (by decide)) (fun _ => upI_nea (by decide)), hS.2.1.f (J := upI K2 1006 9 0) (g6 2) (fun j => f2 1007 j (by decide) (by decide)), ⟨(g6 4).trans F1.1, F1.2.1, fun q => by have q : d = 6 := q; omega⟩, ⟨(g6 5).trans F2.1, F2.2⟩, ⟨(g6 6).trans F3.1, F3.2⟩, (g6 7).trans F4, (g6 8).trans F5, rfl⟩⟩
        · have hv : valX tp sz x = some 2 := fnd_some.mpr ⟨by decide, h56, fun j hj => by
            have hj4 : j = 0 ∨ j = 1 := by omega
            rcases hj4 with rfl | rfl
            · exact h9
            · exact h32⟩
          refine jx_aload_n dX7_readValue_59 rfl ?_
          refine jx_getR dX7_readValue_60 flX7_19 rfl rfl hRt ?_
          refine jx_bipush (v := -3) dX7_readValue_63 (by decide) ?_
          refine jx_VRv (as := [.int _]) dX7_readValue_65 mlX7_100 okX6_add viX6_add rfl rfl rfl rfl rfl (by decide) (Nat.le_of_ble_eq_true rfl) (tX6_add hW hR (by decide) hS.1) (fun t65 hq65 => ?_)
          obtain ⟨K2, rfl, a2, f2⟩ := hq65
          refine jx_goto 104 dX7_readValue_68 (by decide) ?_
          refine jx_aload_n dX7_readValue_104 rfl ?_
          refine jx_iconst (v := 0) dX7_readValue_105 (by decide) ?_
          refine jx_putZ dX7_readValue_106 flX7_33 rfl rfl (fun r h => by cases h; rfl) (by first | exact Or.inl rfl | exact Or.inr rfl | exact jb_or _) ?_
          refine jx_iconst (v := 1) dX7_readValue_109 (by decide) ?_
          refine jx_zret dX7_readValue_110 rfl ?_ ?_
          · first | exact Or.inl rfl | exact Or.inr rfl | exact jb_or _
          have kk : eqK _ I (upI K2 1006 9 0) := eqK_u (fun b j a1 a2 a3 a4 => f2 b j a3 a4)
          have g6 : ∀ j, K2 1006 j = I 1006 j := fun j => f2 1006 j (by decide) (by decide)
          exact ⟨_, rfl, StQ_g (u := (adC code (-3), wt, d, nt, cp, eb, nm, false)) (by unfold pVal; rw [hv]; show (0, (adC code (-1 - nI 2), wt, d, nt, cp, eb, nm, false)) = _; rw [show (-1 - nI 2 : Int32) = -3 by decide]) (eqK_Q kk) (hx.k (by decide) kk) ⟨a2.f (J := upI K2 1006 9 0) (fun _ => upI_nea (by decide)) (fun _ => upI_nea (by decide)), hS.2.1.f (J := upI K2 1006 9 0) (g6 2) (fun j => f2 1007 j (by decide) (by decide)), ⟨(g6 4).trans F1.1, F1.2.1, fun q => by have q : d = 6 := q; omega⟩, ⟨(g6 5).trans F2.1, F2.2⟩, ⟨(g6 6).trans F3.1, F3.2⟩, (g6 7).trans F4, (g6 8).trans F5, rfl⟩⟩
      · have hv : valX tp sz x = some 1 := fnd_some.mpr ⟨by decide, h32, fun j hj => by
          have hj4 : j = 0 := by omega
          subst hj4; exact h9⟩
        refine jx_aload_n dX7_readValue_35 rfl ?_
        refine jx_getR dX7_readValue_36 flX7_19 rfl rfl hRt ?_
        refine jx_bipush (v := -2) dX7_readValue_39 (by decide) ?_
        refine jx_VRv (as := [.int _]) dX7_readValue_41 mlX7_100 okX6_add viX6_add rfl rfl rfl rfl rfl (by decide) (Nat.le_of_ble_eq_true rfl) (tX6_add hW hR (by decide) hS.1) (fun t41 hq41 => ?_)
        obtain ⟨K2, rfl, a2, f2⟩ := hq41
        refine jx_goto 104 dX7_readValue_44 (by decide) ?_
        refine jx_aload_n dX7_readValue_104 rfl ?_
        refine jx_iconst (v := 0) dX7_readValue_105 (by decide) ?_
        refine jx_putZ dX7_readValue_106 flX7_33 rfl rfl (fun r h => by cases h; rfl) (by first | exact Or.inl rfl | exact Or.inr rfl | exact jb_or _) ?_
        refine jx_iconst (v := 1) dX7_readValue_109 (by decide) ?_
        refine jx_zret dX7_readValue_110 rfl ?_ ?_
        · first | exact Or.inl rfl | exact Or.inr rfl | exact jb_or _
        have kk : eqK _ I (upI K2 1006 9 0) := eqK_u (fun b j a1 a2 a3 a4 => f2 b j a3 a4)
        have g6 : ∀ j, K2 1006 j = I 1006 j := fun j => f2 1006 j (by decide) (by decide)
        exact ⟨_, rfl, StQ_g (u := (adC code (-2), wt, d, nt, cp, eb, nm, false)) (by unfold pVal; rw [hv]; show (0, (adC code (-1 - nI 1), wt, d, nt, cp, eb, nm, false)) = _; rw [show (-1 - nI 1 : Int32) = -2 by decide]) (eqK_Q kk) (hx.k (by decide) kk) ⟨a2.f (J := upI K2 1006 9 0) (fun _ => upI_nea (by decide)) (fun _ => upI_nea (by decide)), hS.2.1.f (J := upI K2 1006 9 0) (g6 2) (fun j => f2 1007 j (by decide) (by decide)), ⟨(g6 4).trans F1.1, F1.2.1, fun q => by have q : d = 6 := q; omega⟩, ⟨(g6 5).trans F2.1, F2.2⟩, ⟨(g6 6).trans F3.1, F3.2⟩, (g6 7).trans F4, (g6 8).trans F5, rfl⟩⟩
    · have hv : valX tp sz x = some 0 := fnd_some.mpr ⟨by decide, h9, fun j hj => by
        have hj4 : False := by omega
        exact hj4.elim⟩
      refine jx_aload_n dX7_readValue_12 rfl ?_
      refine jx_getR dX7_readValue_13 flX7_19 rfl rfl hRt ?_
      refine jx_iconst (v := -1) dX7_readValue_16 (by decide) ?_
      refine jx_VRv (as := [.int _]) dX7_readValue_17 mlX7_100 okX6_add viX6_add rfl rfl rfl rfl rfl (by decide) (Nat.le_of_ble_eq_true rfl) (tX6_add hW hR (by decide) hS.1) (fun t17 hq17 => ?_)
      obtain ⟨K2, rfl, a2, f2⟩ := hq17
      refine jx_goto 104 dX7_readValue_20 (by decide) ?_
      refine jx_aload_n dX7_readValue_104 rfl ?_
      refine jx_iconst (v := 0) dX7_readValue_105 (by decide) ?_
      refine jx_putZ dX7_readValue_106 flX7_33 rfl rfl (fun r h => by cases h; rfl) (by first | exact Or.inl rfl | exact Or.inr rfl | exact jb_or _) ?_
      refine jx_iconst (v := 1) dX7_readValue_109 (by decide) ?_
      refine jx_zret dX7_readValue_110 rfl ?_ ?_
      · first | exact Or.inl rfl | exact Or.inr rfl | exact jb_or _
      have kk : eqK _ I (upI K2 1006 9 0) := eqK_u (fun b j a1 a2 a3 a4 => f2 b j a3 a4)
      have g6 : ∀ j, K2 1006 j = I 1006 j := fun j => f2 1006 j (by decide) (by decide)
      exact ⟨_, rfl, StQ_g (u := (adC code (-1), wt, d, nt, cp, eb, nm, false)) (by unfold pVal; rw [hv]; show (0, (adC code (-1 - nI 0), wt, d, nt, cp, eb, nm, false)) = _; rw [show (-1 - nI 0 : Int32) = -1 by decide]) (eqK_Q kk) (hx.k (by decide) kk) ⟨a2.f (J := upI K2 1006 9 0) (fun _ => upI_nea (by decide)) (fun _ => upI_nea (by decide)), hS.2.1.f (J := upI K2 1006 9 0) (g6 2) (fun j => f2 1007 j (by decide) (by decide)), ⟨(g6 4).trans F1.1, F1.2.1, fun q => by have q : d = 6 := q; omega⟩, ⟨(g6 5).trans F2.1, F2.2⟩, ⟨(g6 6).trans F3.1, F3.2⟩, (g6 7).trans F4, (g6 8).trans F5, rfl⟩⟩
end CZ9
