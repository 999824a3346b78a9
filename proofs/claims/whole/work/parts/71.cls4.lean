/-! THE CLASS: the ferry's tables -/
def FL (I : Nat → Nat → Int32) (L : Nat → Nat → Int64) (T : Nat → Nat → Int32) (len : Nat) : Prop := ∀ day, day ≤ 40 → bt (L 1040 2) day = true → ∀ t, t < 96 → I 1041 (day * 96 + t) = nI (wlev (T 1082) len day t (T 1072 7))
def SKn (I T : Nat → Nat → Int32) (W H np len : Nat) : Prop := ∀ p day, p < np → day ≤ 40 → I 1042 (p * 41 + day) = 0 ∨ I 1042 (p * 41 + day) = aI (arr T W H len day (T 1072 7) p 0 0) + 2
/-- the class's island here, and what the ferry knows of it -/
def CF (I : Nat → Nat → Int32) (L : Nat → Nat → Int64) (R : Nat → Nat → Option Nat) (h : Nat) (T : Nat → Nat → Int32) (W H np len : Nat) : Prop :=
  ((h = 1008 ∨ h = 1024) ∧ R 1040 0 = some h) ∧ CIs I L h T W H np len ∧ RI T W H np len ∧ (∀ k, k < len → okS (T 1082 k)) ∧ FL I L T len ∧ SKn I T W H np len
/-- what a question may write over -/
def scI (b j : Nat) : Bool := decide (b = 1041 ∨ b = 1042 ∨ b = 1015 ∨ b = 1031 ∨ (b = 1040 ∧ (j = 7 ∨ j = 8)))
def scL (b j : Nat) : Bool := decide (b = 1043 ∨ b = 1044 ∨ (b = 1040 ∧ j = 2))
def eqC (I J : Nat → Nat → Int32) : Prop := ∀ b j, scI b j = false → J b j = I b j
def eqCL (L M : Nat → Nat → Int64) : Prop := ∀ b j, scL b j = false → M b j = L b j
theorem eqC_r (I : Nat → Nat → Int32) : eqC I I := fun _ _ _ => rfl
theorem eqCL_r (L : Nat → Nat → Int64) : eqCL L L := fun _ _ _ => rfl
theorem eqC_t {I J K : Nat → Nat → Int32} (h1 : eqC I J) (h2 : eqC J K) : eqC I K := fun b j h => (h2 b j h).trans (h1 b j h)
theorem eqCL_t {I J K : Nat → Nat → Int64} (h1 : eqCL I J) (h2 : eqCL J K) : eqCL I K := fun b j h => (h2 b j h).trans (h1 b j h)
theorem eqC_u {I J : Nat → Nat → Int32} {a k : Nat} {v : Int32} (h : eqC I J) (ha : scI a k = true) : eqC I (upI J a k v) := fun b j hb => by
  by_cases e : b = a ∧ j = k
  · rw [e.1, e.2, ha] at hb; cases hb
  · rw [upI_ne e]; exact h b j hb
theorem eqCL_u {L M : Nat → Nat → Int64} {a k : Nat} {v : Int64} (h : eqCL L M) (ha : scL a k = true) : eqCL L (upL M a k v) := fun b j hb => by
  by_cases e : b = a ∧ j = k
  · rw [e.1, e.2, ha] at hb; cases hb
  · rw [upL_ne e]; exact h b j hb
theorem eqx_C {l : List Nat} {I J : Nat → Nat → Int32} (h : eqx l I J) (hl : ∀ b ∈ l, ∀ j, scI b j = true) : eqC I J := fun b j hb => h b j (fun q => by rw [hl b q j] at hb; cases hb)
theorem CIs_e {I J : Nat → Nat → Int32} {L M : Nat → Nat → Int64} {h : Nat} {T : Nat → Nat → Int32} {W H np len : Nat} (hh : h = 1008 ∨ h = 1024) (hn : np ≤ 6) (hc : CIs I L h T W H np len) (e1 : eqC I J) (e2 : eqCL L M) : CIs J M h T W H np len := by
  have g : ∀ b j, (b = h ∨ b = h + 1 ∨ b = h + 2 ∨ b = h + 3 ∨ b = h + 5 ∨ b = h + 6 ∨ b = h + 9 ∨ (h + 10 ≤ b ∧ b < h + 16)) → J b j = I b j := fun b j hb => e1 b j (decide_eq_false (by omega))
  have gl : ∀ b j, (b = h + 1 ∨ b = h + 4) → M b j = L b j := fun b j hb => e2 b j (decide_eq_false (by omega))
  obtain ⟨⟨⟨a1, a2⟩, a3, ⟨a4, a5⟩, ⟨a6, a7⟩, ⟨a8, a9⟩, ⟨b1, b2, b3⟩, b4⟩, ⟨c1, c2⟩, ⟨d1, d2⟩, ⟨f1, f2, f3, f4⟩, f5⟩ := hc
  exact ⟨⟨⟨(g _ _ (by omega)).trans a1, (g _ _ (by omega)).trans a2⟩, fun c hc => (g _ _ (by omega)).trans (a3 c hc), ⟨(g _ _ (by omega)).trans a4, fun k hk => (g _ _ (by omega)).trans (a5 k hk)⟩, ⟨(g _ _ (by omega)).trans a6, (g _ _ (by omega)).trans a7⟩, ⟨(gl _ _ (by omega)).trans a8, (gl _ _ (by omega)).trans a9⟩, ⟨(gl _ _ (by omega)).trans b1, (gl _ _ (by omega)).trans b2, (gl _ _ (by omega)).trans b3⟩, fun k hk => (gl _ _ (by omega)).trans (b4 k hk)⟩, ⟨(g _ _ (by omega)).trans c1, fun k hk => (g _ _ (by omega)).trans (c2 k hk)⟩, ⟨(g _ _ (by omega)).trans d1, fun p k hp hk => (g _ _ (by omega)).trans (d2 p k hp hk)⟩, ⟨(g _ _ (by omega)).trans f1, (g _ _ (by omega)).trans f2, (g _ _ (by omega)).trans f3, (g _ _ (by omega)).trans f4⟩, fun f hf => (g _ _ (by omega)).trans (f5 f hf)⟩
theorem CF_e {I J : Nat → Nat → Int32} {L M : Nat → Nat → Int64} {R : Nat → Nat → Option Nat} {h : Nat} {T : Nat → Nat → Int32} {W H np len : Nat} (hc : CF I L R h T W H np len) (e1 : eqC I J) (e2 : eqCL L M) (h1 : FL J M T len) (h2 : SKn J T W H np len) : CF J M R h T W H np len :=
  ⟨hc.1, CIs_e hc.1.1 hc.2.2.1.2.2.2.2.1.2 hc.2.1 e1 e2, hc.2.2.1, hc.2.2.2.1, h1, h2⟩
theorem CF_k {I J : Nat → Nat → Int32} {L M : Nat → Nat → Int64} {R : Nat → Nat → Option Nat} {h : Nat} {T : Nat → Nat → Int32} {W H np len : Nat} (hc : CF I L R h T W H np len) (e1 : eqC I J) (e2 : eqCL L M) (h1 : ∀ k, J 1041 k = I 1041 k) (h2 : ∀ k, J 1042 k = I 1042 k) (h3 : M 1040 2 = L 1040 2) : CF J M R h T W H np len :=
  CF_e hc e1 e2 (fun day hd hb t ht => by rw [h3] at hb; rw [h1]; exact hc.2.2.2.2.1 day hd hb t ht) (fun p day hp hd => by rw [h2]; exact hc.2.2.2.2.2 p day hp hd)
theorem rtPa : ∀ p, p < 6 → rtE 1016 p = some (1018 + p) := by decide
theorem rtPb : ∀ p, p < 6 → rtE 1032 p = some (1034 + p) := by decide
theorem shPa : ∀ p, p < 6 → shE (1018 + p) = (0, 3) := by decide
theorem shPb : ∀ p, p < 6 → shE (1034 + p) = (0, 3) := by decide
theorem by20 : ∀ v, v ≤ 20 → (nI v).toInt8.toInt32.toInt8.toInt32 = nI v := by decide
section CD1
variable {w : jWD} {l : Launch} {n : Nat} {I : Nat → Nat → Int32} {L : Nat → Nat → Int64} {R : Nat → Nat → Option Nat}

set_option maxHeartbeats 1000000 in
set_option maxRecDepth 20000 in
theorem tX0_learnLevels (hW : jWok w l) (hR : RS R) {h : Nat} {T : Nat → Nat → Int32} {W H np len : Nat} (hC : CF I L R h T W H np len) {day : Nat} (hd : day ≤ 40) : jRv w l mX0_learnLevels 3 [.ref 1040, .int (nI day)] (n, shE, I, L, R) (fun t => ∃ J M, t = (n, shE, J, M, R) ∧ eqx [1041, 1015, 1031] I J ∧ (∀ b j, ¬ (b = 1040 ∧ j = 2) → M b j = L b j) ∧ CF J M R h T W H np len ∧ bt (M 1040 2) day = true) := by
  refine jRv_of hW (by decide) rfl (Nat.le_of_ble_eq_true rfl) ?_
  have hC0 := hC
  obtain ⟨⟨hh, hRi⟩, hI, hRI, hok, hFL, hSK⟩ := hC
  have hrl := hRI.2.2.2.2.2.2.1
  have key : bt (L 1040 2) day = false → ∀ t, t ≤ 96 → ∀ J, eqx [1041, 1015, 1031] I J → (∀ k, k < t → J 1041 (day * 96 + k) = nI (wlev (T 1082) len day k (T 1072 7))) → (∀ k, (k < day * 96 ∨ day * 96 + t ≤ k) → J 1041 k = I 1041 k) → jWP w l mX0_learnLevels 3 0 0 (fun v t => v = none ∧ ∃ J M, t = (n, shE, J, M, R) ∧ eqx [1041, 1015, 1031] I J ∧ (∀ b j, ¬ (b = 1040 ∧ j = 2) → M b j = L b j) ∧ CF J M R h T W H np len ∧ bt (M 1040 2) day = true) (fun _ _ => False) 14 [(0, .ref 1040), (1, .int (nI day)), (2, .int (nI t))] [] (n, shE, J, L, R) := by
    intro hnb
    refine jdown _ (fun t ht ih => ?_)
    intro J he hv hu
    have heC : eqC I J := eqx_C he (by intro b hb j; simp at hb; rcases hb with rfl | rfl | rfl <;> rfl)
    have hIJ := CIs_e hh hRI.2.2.2.2.1.2 hI heC (eqCL_r L)
    rcases hh with rfl | rfl
    all_goals
    refine jx_iload_n dX0_learnLevels_14 rfl ?_
    refine jx_bipush (v := 96) dX0_learnLevels_15 (by decide) ?_
    refine jx_icmpN_ge (a := t) (b := 96) 57 dX0_learnLevels_17 (by decide) (by omega) (by omega) (fun h17 => ?_) (fun h17 => ?_)
    · refine jx_aload_n dX0_learnLevels_57 rfl ?_
      refine jx_dup dX0_learnLevels_58 rfl ?_
      refine jx_getL dX0_learnLevels_59 flX0_33 rfl rfl ?_
      refine jx_lconst (v := 1) dX0_learnLevels_62 (by decide) ?_
      refine jx_iload_n dX0_learnLevels_63 rfl ?_
      refine jx_lshl dX0_learnLevels_64 ?_
      refine jx_lor dX0_learnLevels_65 ?_
      refine jx_putL dX0_learnLevels_66 flX0_33 rfl rfl (fun r h => by cases h; rfl) ?_
      refine jx_vret dX0_learnLevels_69 rfl ?_
      have ht96 : t = 96 := by omega
      subst ht96
      have hb2 : ∀ c, c < 64 → bt (upL L 1040 2 (L 1040 2 ||| (1 : Int64) <<< ((nI day).toInt64 &&& 63)) 1040 2) c = (bt (L 1040 2) c || decide (c = day)) := fun c hc => by rw [upL_same, bt_or, bt_sh1 (by omega)]
      have heM : eqCL L (upL L 1040 2 (L 1040 2 ||| (1 : Int64) <<< ((nI day).toInt64 &&& 63))) := eqCL_u (eqCL_r L) (by decide)
      refine ⟨rfl, J, _, rfl, he, fun b j hb => upL_ne hb, CF_e hC0 heC heM ?_ ?_, ?_⟩
      · intro d hd4 hb t ht
        rw [hb2 d (by omega)] at hb
        by_cases z : d = day
        · rw [z]; exact hv t ht
        · rw [decide_eq_false z, Bool.or_false] at hb
          rw [hu (d * 96 + t) (by omega)]
          exact hFL d hd4 hb t ht
      · intro p d hp hd4
        rw [he 1042 _ (by decide)]
        exact hSK p d hp hd4
      · rw [hb2 day (by omega), decide_eq_true rfl, Bool.or_true]
    · have h17 : t < 96 := by omega
      refine jx_aload_n dX0_learnLevels_20 rfl ?_
      refine jx_getR dX0_learnLevels_21 flX0_9 rfl rfl (hR _ _ _ rfl) ?_
      refine jx_iload_n dX0_learnLevels_24 rfl ?_
      refine jx_bipush (v := 96) dX0_learnLevels_25 (by decide) ?_
      refine jx_imulE (z := nI (day * 96)) dX0_learnLevels_27 (pk_mul day 96) ?_
      refine jx_iload_n dX0_learnLevels_28 rfl ?_
      refine jx_iaddE (z := nI ((day * 96) + t)) dX0_learnLevels_29 (nI_add (day * 96) t) ?_
      refine jx_aload_n dX0_learnLevels_30 rfl ?_
      refine jx_getR dX0_learnLevels_31 flX0_29 rfl rfl hRi ?_
      refine jx_getR dX0_learnLevels_34 flX0_51 rfl rfl (hR _ _ _ rfl) ?_
      refine jx_iload_n dX0_learnLevels_37 rfl ?_
      refine jx_iload_n dX0_learnLevels_38 rfl ?_
      refine jx_aload_n dX0_learnLevels_39 rfl ?_
      refine jx_getR dX0_learnLevels_40 flX0_29 rfl rfl hRi ?_
      refine jx_getIE dX0_learnLevels_43 flX0_57 rfl rfl (hIJ.2.2.2.1.2.1) ?_
      refine jx_VRi (as := [.int _, .int _, .int _]) dX0_learnLevels_46 mlX0_61 okX6_level viX6_level rfl rfl rfl rfl rfl (by decide) (Nat.le_of_ble_eq_true rfl) (tX6_level hW hR (r := _) (by decide) hIJ.2.1 hrl.2.1 hrl.2.2.1 hok hrl.2.2.2 hd h17 (T 1072 7)) (fun x46 t46 hq46 => ?_)
      obtain ⟨rfl, J2, rfl, he2⟩ := hq46
      have hwl := wlev_le (T 1082) len day t (T 1072 7)
      have hj2 : ∀ k, J2 1041 k = J 1041 k := fun k => he2 1041 k (by decide)
      refine jx_i2b dX0_learnLevels_49 ?_
      refine jx_bastN ((day * 96) + t) dX0_learnLevels_50 rfl (rfl) (by omega) (by omega) ?_
      refine jx_iinc dX0_learnLevels_51 rfl (v := nI (t + 1)) (nI_1 _) (by decide) ?_
      refine jx_goto 14 dX0_learnLevels_54 (by decide) ?_
      rw [by20 _ hwl]
      refine jx_ls (by exact ⟨rfl, rfl, rfl, trivial⟩) (ih h17 _ (eqx_u (eqx_t he (eqx_m he2 (by intro b hb; simp at hb; subst hb; decide))) (by decide)) (fun k hk => ?_) (fun k hk => ?_))
      · by_cases z : k = t
        · rw [z, upI_s]
        · rw [upI_j (by omega), hj2]; exact hv k (by omega)
      · rw [upI_j (by omega), hj2]; exact hu k (by omega)
  rcases hh with rfl | rfl
  all_goals
    refine jx_aload_n dX0_learnLevels_0 rfl ?_
    refine jx_getL dX0_learnLevels_1 flX0_33 rfl rfl ?_
    refine jx_iload_n dX0_learnLevels_4 rfl ?_
    refine jx_Ni (as := [.long _, .int _]) dX0_learnLevels_5 mlX0_47 okX10_has stX10_has rfl (by decide) (Nat.le_of_ble_eq_true rfl) (tX10_has hW (c := day) (by omega) _) ?_
    refine jx_ifB_eq 12 dX0_learnLevels_8 (by decide) (fun h8 => ?_) (fun h8 => ?_)
    · refine jx_iconst (v := 0) dX0_learnLevels_12 (by decide) ?_
      refine jx_istore_n dX0_learnLevels_13 rfl (by decide) ?_
      exact jx_ls (by exact ⟨rfl, rfl, rfl, trivial⟩) (key h8 0 (by omega) I (eqx_r _ _) (fun k hk => absurd hk (by omega)) (fun k _ => rfl))
    · refine jx_vret dX0_learnLevels_11 rfl ?_
      exact ⟨rfl, I, L, rfl, eqx_r _ _, fun _ _ _ => rfl, hC0, h8⟩
set_option maxHeartbeats 1000000 in
set_option maxRecDepth 20000 in
theorem tX0_levelOn (hW : jWok w l) (hR : RS R) {h : Nat} {T : Nat → Nat → Int32} {W H np len : Nat} (hC : CF I L R h T W H np len) {day tick : Nat} (hd : day ≤ 40) (ht : tick < 96) : jRi w l mX0_levelOn 4 [.ref 1040, .int (nI day), .int (nI tick)] (n, shE, I, L, R) (fun r t => r = nI (wlev (T 1082) len day tick (T 1072 7)) ∧ ∃ J M, t = (n, shE, J, M, R) ∧ eqC I J ∧ eqCL L M ∧ CF J M R h T W H np len) := by
  refine jRi_of hW (by decide) rfl (Nat.le_of_ble_eq_true rfl) ?_
  refine jx_aload_n dX0_levelOn_0 rfl ?_
  refine jx_iload_n dX0_levelOn_1 rfl ?_
  refine jx_VRv (as := [.int _]) dX0_levelOn_2 mlX0_43 okX0_learnLevels viX0_learnLevels rfl rfl rfl rfl rfl (by decide) (Nat.le_of_ble_eq_true rfl) (tX0_learnLevels hW hR hC hd) (fun t2 hq2 => ?_)
  obtain ⟨J, M, rfl, he, hM, hC2, hb⟩ := hq2
  have heC : eqC I J := eqx_C he (by intro b hb j; simp at hb; rcases hb with rfl | rfl | rfl <;> rfl)
  refine jx_aload_n dX0_levelOn_5 rfl ?_
  refine jx_getR dX0_levelOn_6 flX0_9 rfl rfl (hR _ _ _ rfl) ?_
  refine jx_iload_n dX0_levelOn_9 rfl ?_
  refine jx_bipush (v := 96) dX0_levelOn_10 (by decide) ?_
  refine jx_imulE (z := nI (day * 96)) dX0_levelOn_12 (pk_mul day 96) ?_
  refine jx_iload_n dX0_levelOn_13 rfl ?_
  refine jx_iaddE (z := nI ((day * 96) + tick)) dX0_levelOn_14 (nI_add (day * 96) tick) ?_
  refine jx_baldE ((day * 96) + tick) dX0_levelOn_15 rfl (rfl) (by omega) (by omega) (hC2.2.2.2.2.1 day hd hb tick ht) ?_
  refine jx_iret dX0_levelOn_16 rfl ?_
  exact ⟨_, rfl, rfl, J, M, rfl, heC, fun b j hb2 => hM b j (fun q => by rw [q.1, q.2] at hb2; exact absurd hb2 (by decide)), hC2⟩
end CD1
