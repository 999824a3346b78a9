/-! the law's cases without a wrapper -/
section CDr
variable {w : jWD} {l : Launch} {n : Nat} {I J K : Nat → Nat → Int32} {L M : Nat → Nat → Int64} {R : Nat → Nat → Option Nat} {h g W H np len b s tn : Nat} {tp : Nat → Nat}
def jDir (w : jWD) (l : Launch) (N X : jMI) (as : List Value) (n : Nat) (I : Nat → Nat → Int32) (L : Nat → Nat → Int64) (R : Nat → Nat → Option Nat) : Prop :=
  ∃ dN dX, dN ≤ 50 ∧ dX ≤ 50 ∧ jRi w l N dN (.ref 1000 :: as) (n, shE, I, L, R) (fun r t => ∃ J M, t = (n, shE, J, M, R) ∧ jRi w l X dX (.ref 1069 :: as) (n, shE, J, M, R) (fun r' t' => r' = r ∧ ∃ K, t' = (n, shE, K, M, R) ∧ INV K M R))
theorem jCD_i {N : jMI} {d : Nat} {as : List Value} {σ σ' : jHS} {v : Int32} {Q : Int32 → jHS → Prop} (h : jCD w l N d as σ (some (.int v)) σ') (hq : Q v σ') : jRi w l N d as σ Q := jCt_m h (by
  rintro r t ⟨rfl, rfl⟩
  exact ⟨v, rfl, hq⟩)
theorem CX_KK (hX : CX I L R h (hR I) W H np len) (e1 : ∀ a j, 1008 ≤ a → a ≤ 1042 → K a j = I a j) (e2 : ∀ a j, 1072 ≤ a → a ≤ 1082 → K a j = I a j) : CX K L R h (hR K) W H np len := CX_o (CX_K hX e2) e1 (fun _ _ _ _ => rfl)
theorem kD_fault (hW : jWok w l) (hV : INV I L R) : jDir w l mX10_fault mX11_fault [] n I L R := by
  obtain ⟨h, g, W, H, np, len, b, s, tn, tp, hv⟩ := hV
  refine ⟨1, 1, by decide, by decide, jCD_i (tX10_fault hW hv.rs) ⟨I, L, rfl, jCD_i (tX11_fault hW) ⟨hv.pg.symm, _, rfl, h, g, W, H, np, len, b, s, tn, tp, IV_2 hv 0⟩⟩⟩
theorem BkF_d {n0 m0 : Int32} {a1 a2 a3 a4 a5 t1 t2 t3 t4 t5 : Nat → Int32} (hb : BkF n0 a1 a2 a3 a4 a5 m0 t1 t2 t3 t4 t5 W H np b) (c : Nat) (hc : c ≤ b) : BkF (nI c) a1 a2 a3 a4 a5 (nI c) t1 t2 t3 t4 t5 W H np c :=
  ⟨rfl, ⟨rfl, Nat.le_trans hc hb.2.1.2.1, fun i hi => hb.2.1.2.2 i (by omega)⟩, fun i hi => hb.2.2.1 i (by omega), fun i j h1 h2 => hb.2.2.2 i j h1 (by omega)⟩
theorem SkF_d {n8 n9 m0 : Int32} {a1 a2 t1 t2 t3 : Nat → Int32} (hb : SkF n8 n9 a1 a2 m0 t1 t2 t3 W H s) (c : Nat) (hc : c ≤ s) : SkF n8 (nI c) a1 a2 (nI c) t1 t2 t3 W H c :=
  ⟨rfl, ⟨rfl, Nat.le_trans hc hb.2.1.2.1, fun i hi => hb.2.1.2.2 i (by omega)⟩, fun i hi => hb.2.2 i (by omega)⟩
theorem kD_undo (hW : jWok w l) (hV : INV I L R) : jDir w l mX10_undo mX11_undo [] n I L R := by
  obtain ⟨h, g, W, H, np, len, b, s, tn, tp, hv⟩ := hV
  refine ⟨1, 1, by decide, by decide, jCD_i (tX10_undo hW hv.rs hv.pb.1 hv.b12) ⟨_, L, rfl, ?_⟩⟩
  have e32 : (if b = 0 then I else upI I 1051 5 (nI (b - 1))) 1069 32 = nI b := by
    by_cases z : b = 0
    · rw [if_pos z]; exact hv.pb.2.1.1
    · rw [if_neg z, upI_nea (by decide)]; exact hv.pb.2.1.1
  refine jCD_i (tX11_undo hW e32 hv.b12) ⟨rfl, _, rfl, ?_⟩
  by_cases z : b = 0
  · rw [if_pos z, if_pos z]
    exact ⟨h, g, W, H, np, len, b, s, tn, tp, IV_2 hv 0⟩
  · rw [if_neg z, if_neg z]
    have e : ∀ a j, ¬ (a = 1051 ∧ j = 5) → ¬ (a = 1069 ∧ (j = 2 ∨ j = 32)) → upI (upI (upI I 1051 5 (nI (b - 1))) 1069 2 0) 1069 32 (nI (b - 1)) a j = I a j := fun a j h1 h2 => by
      rw [upI_ne (by omega), upI_ne (by omega), upI_ne (by omega)]
    refine ⟨h, g, W, H, np, len, b - 1, s, tn, tp, hv.rs, hv.hg, hv.r5, CX_KK hv.cx (fun a j _ _ => e a j (by omega) (by omega)) (fun a j _ _ => e a j (by omega) (by omega)), PT_f hv.wh.1 hv.wh.2 hv.pt (fun a j q => e a j (by omega) (by omega)), CPk_f hv.cp (e _ _ (by omega) (by omega)), ?_, PS_f hv.ps (fun a j q => e a j (by omega) (by omega)), PN_f hv.pn (fun a j q => e a j (by omega) (by omega)), PF_f hv.pf (fun a j q => e a j (by omega) (by omega)), PG_f hv.pg (fun a j q => e a j (by omega) (by omega)), PC_f hv.pc (fun a j q => e a j (by omega) (by omega)), PW_f hv.pw (fun a j q => e a j (by omega) (by omega)), PD_f hv.pd (fun a j q => e a j (by omega) (by omega)), PI_f hv.pi (fun a j q => e a j (by omega) (by omega))⟩
    exact BkF_c (BkF_d hv.pb (b - 1) (by omega)) (by rw [upI_nea (by decide), upI_nea (by decide), upI_s]) (fun _ _ => e _ _ (by omega) (by omega)) (fun _ _ => e _ _ (by omega) (by omega)) (fun _ _ => e _ _ (by omega) (by omega)) (fun _ _ => e _ _ (by omega) (by omega)) (fun _ _ => e _ _ (by omega) (by omega)) upI_s (fun _ _ => e _ _ (by omega) (by omega)) (fun _ _ => e _ _ (by omega) (by omega)) (fun _ _ => e _ _ (by omega) (by omega)) (fun _ _ => e _ _ (by omega) (by omega)) (fun _ _ => e _ _ (by omega) (by omega))
theorem kD_forget (hW : jWok w l) (hV : INV I L R) : jDir w l mX10_forget mX11_forget [] n I L R := by
  obtain ⟨h, g, W, H, np, len, b, s, tn, tp, hv⟩ := hV
  refine ⟨1, 1, by decide, by decide, jCD_i (tX10_forget hW hv.rs hv.ps.1 hv.s12) ⟨_, L, rfl, ?_⟩⟩
  have e32 : (if s = 0 then I else upI I 1051 9 (nI (s - 1))) 1069 33 = nI s := by
    by_cases z : s = 0
    · rw [if_pos z]; exact hv.ps.2.1.1
    · rw [if_neg z, upI_nea (by decide)]; exact hv.ps.2.1.1
  refine jCD_i (tX11_forget hW e32 hv.s12) ⟨rfl, _, rfl, ?_⟩
  by_cases z : s = 0
  · rw [if_pos z, if_pos z]
    exact ⟨h, g, W, H, np, len, b, s, tn, tp, IV_2 hv 0⟩
  · rw [if_neg z, if_neg z]
    have e : ∀ a j, ¬ (a = 1051 ∧ j = 9) → ¬ (a = 1069 ∧ (j = 2 ∨ j = 33)) → upI (upI (upI I 1051 9 (nI (s - 1))) 1069 2 0) 1069 33 (nI (s - 1)) a j = I a j := fun a j h1 h2 => by
      rw [upI_ne (by omega), upI_ne (by omega), upI_ne (by omega)]
    refine ⟨h, g, W, H, np, len, b, s - 1, tn, tp, hv.rs, hv.hg, hv.r5, CX_KK hv.cx (fun a j _ _ => e a j (by omega) (by omega)) (fun a j _ _ => e a j (by omega) (by omega)), PT_f hv.wh.1 hv.wh.2 hv.pt (fun a j q => e a j (by omega) (by omega)), CPk_f hv.cp (e _ _ (by omega) (by omega)), PB_f hv.pb (fun a j q => e a j (by omega) (by omega)), ?_, PN_f hv.pn (fun a j q => e a j (by omega) (by omega)), PF_f hv.pf (fun a j q => e a j (by omega) (by omega)), PG_f hv.pg (fun a j q => e a j (by omega) (by omega)), PC_f hv.pc (fun a j q => e a j (by omega) (by omega)), PW_f hv.pw (fun a j q => e a j (by omega) (by omega)), PD_f hv.pd (fun a j q => e a j (by omega) (by omega)), PI_f hv.pi (fun a j q => e a j (by omega) (by omega))⟩
    exact SkF_c (SkF_d hv.ps (s - 1) (by omega)) (e _ _ (by omega) (by omega)) (by rw [upI_nea (by decide), upI_nea (by decide), upI_s]) (fun _ _ => e _ _ (by omega) (by omega)) (fun _ _ => e _ _ (by omega) (by omega)) upI_s (fun _ _ => e _ _ (by omega) (by omega)) (fun _ _ => e _ _ (by omega) (by omega)) (fun _ _ => e _ _ (by omega) (by omega))
end CDr
