/-! THE REFERENCE: burials, whole -/
def burG (I : Nat → Nat → Int32) (W H np len q : Nat) : Bool := (bry I W H len np 0 q (fun _ => 0) (fun _ => 0)).isSome
def burR (I : Nat → Nat → Int32) (W H np len : Nat) : Option (Nat × (Nat → Nat)) := match fnd (burG I W H np len) (np + 1) with
  | none => none
  | some q => match bry I W H len np 0 q (fun _ => 0) (fun _ => 0) with
    | none => none
    | some res => some (q, res)
def burV (x : Option (Nat × (Nat → Nat))) : Int32 := match x with
  | none => -1
  | some y => nI y.1
def burH (I : Nat → Nat → Int32) (np : Nat) (x : Option (Nat × (Nat → Nat))) : Nat → Nat → Int32 := match x with
  | none => upI I 1069 2 0
  | some y => fl (upI (upI I 1069 2 0) 1069 49 1) 1102 (fun k => nI (y.2 k)) np
section RU
variable {w : jWD} {l : Launch} {n : Nat} {I J : Nat → Nat → Int32} {L : Nat → Nat → Int64} {R : Nat → Nat → Option Nat}

set_option maxHeartbeats 1000000 in
set_option maxRecDepth 20000 in
theorem tX11_burials (hW : jWok w l) (hR : RS R) {W H np len : Nat} (hI : RI I W H np len) : jRi w l mX11_burials 9 [.ref 1069] (n, shE, I, L, R) (fun r t => r = burV (burR I W H np len) ∧ ∃ K, t = (n, shE, K, L, R) ∧ eqs (burH I np (burR I W H np len)) K) := by
  refine jRi_of hW (by decide) rfl (Nat.le_of_ble_eq_true rfl) ?_
  have hI0 := hI.kp (k0 I)
  have hnp := hI.2.2.2.2.1.2
  have key11 : ∀ q, q ≤ np + 1 → fnd (burG I W H np len) q = none → ∀ K, eqs (upI I 1069 2 0) K → DYs I K W H len (41 * np) → jWP w l mX11_burials 9 0 0 (fun v t => ∃ r, v = some (.int r) ∧ (fun r t => r = burV (burR I W H np len) ∧ ∃ K, t = (n, shE, K, L, R) ∧ eqs (burH I np (burR I W H np len)) K) r t) (fun _ _ => False) 11 [(0, .ref 1069), (1, .int (nI q))] [] (n, shE, K, L, R) := by
    refine jdown _ (fun q hq ih => ?_)
    intro hf K he hdy
    have hT10 : ∀ K, eqs (upI I 1069 2 0) K → K 1072 10 = nI np := fun K he => (congrFun (kp_t (k0 I) (eqs_kp he) 1072 (by omega) (by omega)) 10).trans hI.2.2.2.2.1.1
    have key24 : q ≤ np → ∀ d, d ≤ 41 → ∀ K, eqs (upI I 1069 2 0) K → DYs I K W H len (41 * np) → (∀ j, j < d → K 1103 j = 0) → jWP w l mX11_burials 9 0 0 (fun v t => ∃ r, v = some (.int r) ∧ (fun r t => r = burV (burR I W H np len) ∧ ∃ K, t = (n, shE, K, L, R) ∧ eqs (burH I np (burR I W H np len)) K) r t) (fun _ _ => False) 24 [(0, .ref 1069), (1, .int (nI q)), (2, .int (nI d))] [] (n, shE, K, L, R) := by
      intro hqn
      refine jdown _ (fun d hd ihd => ?_)
      intro K he hdy hz
      have hkp := kp_t (k0 I) (eqs_kp he)
      refine jx_iload_n dX11_burials_24 rfl ?_
      refine jx_bipush (v := 40) dX11_burials_25 (by decide) ?_
      refine jx_icmpN_gt (a := d) (b := 40) 43 dX11_burials_27 (by decide) (by omega) (by omega) (fun h27 => ?_) (fun h27 => ?_)
      · refine jx_aload_n dX11_burials_43 rfl ?_
        refine jx_iconst (v := 0) dX11_burials_44 (by decide) ?_
        refine jx_iload_n dX11_burials_45 rfl ?_
        refine jx_VRi (as := [.int _, .int _]) dX11_burials_46 mlX11_488 okX11_buryOn viX11_buryOn rfl rfl rfl rfl rfl (by omega) (Nat.le_of_ble_eq_true rfl) (tX11_buryOn hW hR hI np 0 q (fun _ => 0) (fun _ => 0) K (by omega) hkp hdy (fun k hk => absurd hk (by omega)) (fun d' hd' => ⟨hz d' (by omega), Nat.le_refl _⟩) (by omega)) (fun x46 t46 hq46 => ?_)
        obtain ⟨rfl, K2, rfl, m1, m2, m3⟩ := hq46
        have he2 : eqs (upI I 1069 2 0) K2 := eqs_t he (fun b j hb => m1 b j (fun e => by rw [e] at hb; exact absurd hb (by unfold scr; simp)))
        have hfq := hf
        refine jx_ifB_ne 55 dX11_burials_49 (by decide) (fun h49 => ?_) (fun h49 => ?_)
        · have h49s := h49
          cases hb : bry I W H len np 0 q (fun _ => 0) (fun _ => 0) with
          | none => rw [hb] at h49s; cases h49s
          | some res =>
            have hres := m3 res hb
            have hX : burR I W H np len = some (q, res) := by
              unfold burR
              rw [show fnd (burG I W H np len) (np + 1) = some q from fnd_some.mpr ⟨by omega, by unfold burG; rw [hb]; rfl, fnd_none.mp hfq⟩]
              simp only
              rw [hb]
            refine jx_aload_n dX11_burials_55 rfl ?_
            refine jx_iconst (v := 1) dX11_burials_56 (by decide) ?_
            refine jx_putZ dX11_burials_57 flX11_369 rfl rfl (fun r h => by cases h; rfl) (by first | exact Or.inl rfl | exact Or.inr rfl | exact jb_or _) ?_
            refine jx_iconst (v := 0) dX11_burials_60 (by decide) ?_
            refine jx_istore_n dX11_burials_61 rfl (by decide) ?_
            have key62 : ∀ k, k ≤ np → jWP w l mX11_burials 9 0 0 (fun v t => ∃ r, v = some (.int r) ∧ (fun r t => r = burV (burR I W H np len) ∧ ∃ K, t = (n, shE, K, L, R) ∧ eqs (burH I np (burR I W H np len)) K) r t) (fun _ _ => False) 62 [(0, .ref 1069), (1, .int (nI q)), (2, .int (nI k))] [] (n, shE, fl (upI K2 1069 49 1) 1102 (fun k => nI (res k)) k, L, R) := by
              refine jdown _ (fun k hk ihk => ?_)
              refine jx_iload_n dX11_burials_62 rfl ?_
              refine jx_aload_n dX11_burials_63 rfl ?_
              refine jx_getR dX11_burials_64 flX11_34 rfl rfl (hR _ _ _ rfl) ?_
              refine jx_bipush (v := 10) dX11_burials_67 (by decide) ?_
              refine jx_ialdE (10) dX11_burials_69 rfl (rfl) (by omega) (by omega) ((fl_ne (by decide)).trans ((upI_nea' (by decide)).trans (hT10 K2 he2))) ?_
              refine jx_icmpN_ge (a := k) (b := np) 91 dX11_burials_70 (by decide) (by omega) (by omega) (fun h70 => ?_) (fun h70 => ?_)
              · refine jx_iload_n dX11_burials_91 rfl ?_
                refine jx_iret dX11_burials_92 rfl ?_
                have hkn : k = np := by omega
                subst hkn
                refine ⟨_, rfl, ?_, _, rfl, ?_⟩
                · rw [hX]; rfl
                · rw [hX]; exact eqs_f2 (eqs_u2 he2 _ _ _) _ _ _
              · refine jx_aload_n dX11_burials_73 rfl ?_
                refine jx_getR dX11_burials_74 flX11_133 rfl rfl (hR _ _ _ rfl) ?_
                refine jx_iload_n dX11_burials_77 rfl ?_
                refine jx_aload_n dX11_burials_78 rfl ?_
                refine jx_getR dX11_burials_79 flX11_130 rfl rfl (hR _ _ _ rfl) ?_
                refine jx_iload_n dX11_burials_82 rfl ?_
                refine jx_ialdE (k) dX11_burials_83 rfl (rfl) (by omega) (by omega) ((fl_ne (by decide)).trans ((upI_nea' (by decide)).trans (hres k h70).1)) ?_
                refine jx_iastN (k) dX11_burials_84 rfl (rfl) (by omega) (by omega) ?_
                refine jx_iinc dX11_burials_85 rfl (v := nI (k + 1)) (nI_1 _) (by decide) ?_
                refine jx_goto 62 dX11_burials_88 (by decide) ?_
                rw [fl_s (upI K2 1069 49 1) 1102 (fun k => nI (res k)) k]
                exact jx_ls (by exact ⟨rfl, rfl, rfl, trivial⟩) (ihk h70)
            have k0 := key62 0 (by omega)
            rw [fl_0] at k0
            exact jx_ls (by exact ⟨rfl, rfl, rfl, trivial⟩) k0
        · refine jx_goto 93 dX11_burials_52 (by decide) ?_
          refine jx_iinc dX11_burials_93 rfl (v := nI (q + 1)) (nI_1 _) (by decide) ?_
          refine jx_goto 11 dX11_burials_96 (by decide) ?_
          refine jx_ls (by exact ⟨rfl, rfl, trivial⟩) (ih (by omega) ?_ K2 he2 (fun p' d' h1 h2 => ?_))
          · show (match fnd (burG I W H np len) q with | some t => some t | none => if (burG I W H np len) q = true then some q else none) = none
            rw [hf]
            exact if_neg (by unfold burG; rw [h49]; decide)
          · rw [m1 1099 _ (by decide), m1 1100 _ (by decide)]; exact hdy p' d' h1 h2
      · refine jx_aload_n dX11_burials_30 rfl ?_
        refine jx_getR dX11_burials_31 flX11_136 rfl rfl (hR _ _ _ rfl) ?_
        refine jx_iload_n dX11_burials_34 rfl ?_
        refine jx_iconst (v := 0) dX11_burials_35 (by decide) ?_
        refine jx_iastN (d) dX11_burials_36 rfl (rfl) (by omega) (by omega) ?_
        refine jx_iinc dX11_burials_37 rfl (v := nI (d + 1)) (nI_1 _) (by decide) ?_
        refine jx_goto 24 dX11_burials_40 (by decide) ?_
        refine jx_ls (by exact ⟨rfl, rfl, rfl, trivial⟩) (ihd (by omega) _ (eqs_u he (scrA (by decide) (by decide) _)) (fun p' d' h1 h2 => ?_) (fun j hj => ?_))
        · rw [upI_nea' (by decide), upI_nea' (by decide)]; exact hdy p' d' h1 h2
        · by_cases e : j = d
          · subst e; exact upI_s
          · rw [upI_j e]; exact hz j (by omega)
    refine jx_iload_n dX11_burials_11 rfl ?_
    refine jx_aload_n dX11_burials_12 rfl ?_
    refine jx_getR dX11_burials_13 flX11_34 rfl rfl (hR _ _ _ rfl) ?_
    refine jx_bipush (v := 10) dX11_burials_16 (by decide) ?_
    refine jx_ialdE (10) dX11_burials_18 rfl (rfl) (by omega) (by omega) (hT10 K he) ?_
    refine jx_icmpN_gt (a := q) (b := np) 99 dX11_burials_19 (by decide) (by omega) (by omega) (fun h19 => ?_) (fun h19 => ?_)
    · refine jx_iconst (v := -1) dX11_burials_99 (by decide) ?_
      refine jx_iret dX11_burials_100 rfl ?_
      have hqn : q = np + 1 := by omega
      subst hqn
      have hX : burR I W H np len = none := by unfold burR; rw [hf]
      refine ⟨_, rfl, ?_, _, rfl, ?_⟩
      · rw [hX]; rfl
      · rw [hX]; exact he
    · refine jx_iconst (v := 0) dX11_burials_22 (by decide) ?_
      refine jx_istore_n dX11_burials_23 rfl (by decide) ?_
      exact jx_ls (by exact ⟨rfl, rfl, rfl, trivial⟩) (key24 h19 0 (by omega) K he hdy (fun j hj => absurd hj (by omega)))
  refine jx_aload_n dX11_burials_0 rfl ?_
  refine jx_iconst (v := 0) dX11_burials_1 (by decide) ?_
  refine jx_putI dX11_burials_2 flX11_187 rfl rfl (fun r h => by cases h; rfl) ?_
  refine jx_aload_n dX11_burials_5 rfl ?_
  refine jx_VRv (as := []) dX11_burials_6 mlX11_491 okX11_tellDays viX11_tellDays rfl rfl rfl rfl rfl (by omega) (Nat.le_of_ble_eq_true rfl) (tX11_tellDays hW hR hI0) (fun t6 hq6 => ?_)
  obtain ⟨K, rfl, he, hdy0⟩ := hq6
  have hdy : DYs I K W H len (41 * np) := fun p d h1 h2 => by
    have := hdy0 p d h1 h2
    rw [cnD_kp (k0 I), sn0_kp (k0 I), k0 I 1080 (by omega) (by omega)] at this
    exact this
  refine jx_iconst (v := 0) dX11_burials_9 (by decide) ?_
  refine jx_istore_n dX11_burials_10 rfl (by decide) ?_
  exact jx_ls (by exact ⟨rfl, rfl, trivial⟩) (key11 0 (by omega) rfl K he hdy)
end RU
