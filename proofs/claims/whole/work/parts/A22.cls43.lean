/-! THE CLASS: sands are settled -/
section CZ18
variable {w : jWD} {l : Launch} {n : Nat} {I J : Nat → Nat → Int32} {L M : Nat → Nat → Int64} {R : Nat → Nat → Option Nat} {h W H : Nat} {T : Nat → Nat → Int32}
def atF (g : Nat → Int32) (a j k : Nat) : Int64 := bs (fun c => (decide (c < a) || (decide (c = a) && decide (k < j))) && decide (nI k ≤ g c))
theorem atF_z {g : Nat → Int32} {k : Nat} : atF g 0 0 k = 0 := bs_f (fun c _ => by simp)
theorem atF_s {g : Nat → Int32} {a j : Nat} (ha : a < 64) (hj : nI j ≤ g a) : atF g a j j ||| (1 <<< ((nI a).toInt64 &&& 63)) = atF g a (j + 1) j := by
  unfold atF
  rw [bs_1 ha, bs_or]
  refine bs_c (fun c _ => ?_)
  by_cases z : c = a
  · subst z
    simp [hj]
  · simp [z]
theorem atF_o {g : Nat → Int32} {a j k : Nat} (hk : k ≠ j) : atF g a (j + 1) k = atF g a j k := by
  unfold atF
  refine bs_c (fun c _ => ?_)
  have : (decide (k < j + 1)) = decide (k < j) := decide_eq_decide.mpr (by omega)
  rw [this]
theorem atF_e {g : Nat → Int32} {a j k : Nat} (hj : j ≤ 10) (hk : k < 10) (he : g a < nI j ∨ j = 10) : atF g a j k = atF g (a + 1) 0 k := by
  unfold atF
  refine bs_c (fun c _ => ?_)
  by_cases z : c = a
  · subst z
    by_cases q : k < j
    · simp [q]
    · have h1 : g c < nI j := by
        rcases he with e | e
        · exact e
        · omega
      have h2 : ¬ nI k ≤ g c := fun e => by
        rw [Int32.le_iff_toInt_le, nI_toInt (by omega)] at e
        rw [Int32.lt_iff_toInt_lt, nI_toInt (by omega)] at h1
        omega
      simp [q, h2]
  · by_cases q : c < a
    · have : c < a + 1 := by omega
      simp [q, this]
    · have : ¬ c < a + 1 := by omega
      simp [z, q, this]

theorem upL_j {a k j : Nat} {v : Int64} (h : j ≠ k) : upL L a k v a j = L a j := upL_ne (fun q => h q.2)
set_option maxHeartbeats 1000000 in
set_option maxRecDepth 20000 in
theorem tX8_settle (hW : jWok w l) (hR : RS R) (hh : h = 1008 ∨ h = 1024) : jRv w l mX8_settle 2 [.ref (h + 1)] (n, shE, I, L, R) (fun t => (∃ M lim, t = (n, shE, I, M, R) ∧ (∀ b j, b ≠ h + 4 → M b j = L b j) ∧ lim ≤ 63 ∧ (lim = 63 ∨ ¬ nI lim < I (h + 1) 0 * I (h + 1) 1) ∧ (∀ c, c < lim → nI c < I (h + 1) 0 * I (h + 1) 1) ∧ ∀ k, k < 10 → M (h + 4) k = atF (I (h + 2)) lim 0 k)) := by
  refine jRv_of hW (by decide) rfl (Nat.le_of_ble_eq_true rfl) ?_
  have key : ∀ a, a ≤ 63 → ∀ (M : Nat → Nat → Int64), (∀ b j, b ≠ h + 4 → M b j = L b j) → (∀ c, c < a → nI c < I (h + 1) 0 * I (h + 1) 1) → (∀ k, k < 10 → M (h + 4) k = atF (I (h + 2)) a 0 k) → jWP w l mX8_settle 2 0 0 (fun v t => v = none ∧ (∃ M lim, t = (n, shE, I, M, R) ∧ (∀ b j, b ≠ h + 4 → M b j = L b j) ∧ lim ≤ 63 ∧ (lim = 63 ∨ ¬ nI lim < I (h + 1) 0 * I (h + 1) 1) ∧ (∀ c, c < lim → nI c < I (h + 1) 0 * I (h + 1) 1) ∧ ∀ k, k < 10 → M (h + 4) k = atF (I (h + 2)) lim 0 k)) (fun _ _ => False) 10 [(0, .ref (h + 1)), (1, .int (nI a))] [] (n, shE, I, M, R) := by
    refine jdown _ (fun a ha ih => ?_)
    intro M e1 e2 e3
    have key2 : ∀ j, j ≤ 10 → a < 63 → nI a < I (h + 1) 0 * I (h + 1) 1 → ∀ (M : Nat → Nat → Int64), (∀ b j, b ≠ h + 4 → M b j = L b j) → (∀ k, k < 10 → M (h + 4) k = atF (I (h + 2)) a j k) → jWP w l mX8_settle 2 0 0 (fun v t => v = none ∧ (∃ M lim, t = (n, shE, I, M, R) ∧ (∀ b j, b ≠ h + 4 → M b j = L b j) ∧ lim ≤ 63 ∧ (lim = 63 ∨ ¬ nI lim < I (h + 1) 0 * I (h + 1) 1) ∧ (∀ c, c < lim → nI c < I (h + 1) 0 * I (h + 1) 1) ∧ ∀ k, k < 10 → M (h + 4) k = atF (I (h + 2)) lim 0 k)) (fun _ _ => False) 31 [(0, .ref (h + 1)), (1, .int (nI a)), (2, .int (nI j))] [] (n, shE, I, M, R) := by
      refine jdown _ (fun j hj ih2 => ?_)
      intro ha63 haw M f1 f3
      have hout : (I (h + 2) a < nI j ∨ j = 10) → jWP w l mX8_settle 2 0 0 (fun v t => v = none ∧ (∃ M lim, t = (n, shE, I, M, R) ∧ (∀ b j, b ≠ h + 4 → M b j = L b j) ∧ lim ≤ 63 ∧ (lim = 63 ∨ ¬ nI lim < I (h + 1) 0 * I (h + 1) 1) ∧ (∀ c, c < lim → nI c < I (h + 1) 0 * I (h + 1) 1) ∧ ∀ k, k < 10 → M (h + 4) k = atF (I (h + 2)) lim 0 k)) (fun _ _ => False) 65 [(0, .ref (h + 1)), (1, .int (nI a))] [] (n, shE, I, M, R) := by
        intro hx
        refine jx_iinc dX8_settle_65 rfl (v := nI (a + 1)) (nI_1 _) (by decide) ?_
        refine jx_goto 10 dX8_settle_68 (by decide) ?_
        exact jx_ls (by exact ⟨rfl, rfl, trivial⟩) (ih (by omega) M f1 (fun c hc => if z : c = a then z ▸ haw else e2 c (by omega)) (fun k hk => (f3 k hk).trans (atF_e hj hk hx)))
      rcases hh with rfl | rfl
      all_goals
        refine jx_iload_n dX8_settle_31 rfl ?_
        refine jx_aload_n dX8_settle_32 rfl ?_
        refine jx_getR dX8_settle_33 flX8_9 rfl rfl (hR _ _ _ rfl) ?_
        refine jx_iload_n dX8_settle_36 rfl ?_
        refine jx_ialdN (a) dX8_settle_37 rfl (rfl) (by omega) (by omega) ?_
        refine jx_icmp_gt 65 dX8_settle_38 (by decide) (fun h38 => ?_) (fun h38 => ?_)
        · exact jx_ls (by exact ⟨rfl, rfl, trivial⟩) (hout (Or.inl h38))
        · refine jx_iload_n dX8_settle_41 rfl ?_
          refine jx_bipush (v := 10) dX8_settle_42 (by decide) ?_
          refine jx_icmpN_ge (a := j) (b := 10) 65 dX8_settle_44 (by decide) (by omega) (by omega) (fun h44 => ?_) (fun h44 => ?_)
          · exact jx_ls (by exact ⟨rfl, rfl, trivial⟩) (hout (Or.inr (by omega)))
          · refine jx_aload_n dX8_settle_47 rfl ?_
            refine jx_getR dX8_settle_48 flX8_18 rfl rfl (hR _ _ _ rfl) ?_
            refine jx_iload_n dX8_settle_51 rfl ?_
            refine jx_dup2 dX8_settle_52 rfl rfl ?_
            refine jx_laldE (j) dX8_settle_53 rfl (rfl) (by omega) (by omega) (f3 j (by omega)) ?_
            refine jx_lconst (v := 1) dX8_settle_54 (by decide) ?_
            refine jx_iload_n dX8_settle_55 rfl ?_
            refine jx_lshl dX8_settle_56 ?_
            refine jx_lorE (z := atF (I _) a (j + 1) j) dX8_settle_57 (atF_s (by omega) (by exact Int32.not_lt.mp h38)) ?_
            refine jx_lastN (j) dX8_settle_58 rfl (rfl) (by omega) (by omega) ?_
            refine jx_iinc dX8_settle_59 rfl (v := nI (j + 1)) (nI_1 _) (by decide) ?_
            refine jx_goto 31 dX8_settle_62 (by decide) ?_
            refine jx_ls (by exact ⟨rfl, rfl, rfl, trivial⟩) (ih2 (by omega) ha63 haw _ (fun b q hb => (upL_nea hb).trans (f1 b q hb)) (fun k hk => ?_))
            by_cases z : k = j
            · subst z; exact upL_s
            · rw [upL_j z, f3 k hk]; exact (atF_o z).symm
    rcases hh with rfl | rfl
    all_goals
      refine jx_iload_n dX8_settle_10 rfl ?_
      refine jx_aload_n dX8_settle_11 rfl ?_
      refine jx_getI dX8_settle_12 flX8_22 rfl rfl ?_
      refine jx_aload_n dX8_settle_15 rfl ?_
      refine jx_getI dX8_settle_16 flX8_26 rfl rfl ?_
      refine jx_imul dX8_settle_19 ?_
      refine jx_icmp_ge 71 dX8_settle_20 (by decide) (fun h20 => ?_) (fun h20 => ?_)
      · refine jx_vret dX8_settle_71 rfl ?_
        exact ⟨rfl, M, a, rfl, e1, ha, Or.inr (Int32.not_lt.mpr h20), e2, e3⟩
      · refine jx_iload_n dX8_settle_23 rfl ?_
        refine jx_bipush (v := 63) dX8_settle_24 (by decide) ?_
        refine jx_icmpN_ge (a := a) (b := 63) 71 dX8_settle_26 (by decide) (by omega) (by omega) (fun h26 => ?_) (fun h26 => ?_)
        · refine jx_vret dX8_settle_71 rfl ?_
          exact ⟨rfl, M, a, rfl, e1, ha, Or.inl (by omega), e2, e3⟩
        · refine jx_iconst (v := 0) dX8_settle_29 (by decide) ?_
          refine jx_istore_n dX8_settle_30 rfl (by decide) ?_
          exact jx_ls (by exact ⟨rfl, rfl, rfl, trivial⟩) (key2 0 (Nat.zero_le _) (by omega) (Int32.not_le.mp h20) M e1 e3)
  rcases hh with rfl | rfl
  all_goals
    refine jx_aload_n dX8_settle_0 rfl ?_
    refine jx_getR dX8_settle_1 flX8_18 rfl rfl (hR _ _ _ rfl) ?_
    refine jx_lconst (v := 0) dX8_settle_4 (by decide) ?_
    refine jx_Sv (as := [.ref _, .long _]) dX8_settle_5 mlX8_66 okJ7_fill_d0a16 stJ7_fill_d0a16 rfl rfl (by decide) (Nat.le_of_ble_eq_true rfl) (tJ7_fill_d0a16 hW (h := 10) _ rfl (by decide)) ?_
    refine jx_iconst (v := 0) dX8_settle_8 (by decide) ?_
    refine jx_istore_n dX8_settle_9 rfl (by decide) ?_
    refine jx_ls (by exact ⟨rfl, rfl, trivial⟩) (key 0 (Nat.zero_le _) _ (fun b j h1 => ?_) (fun c hc => absurd hc (Nat.not_lt_zero c)) (fun k hk => ?_))
    · unfold flL; exact if_neg (fun q => h1 q.1)
    · unfold flL; rw [if_pos ⟨rfl, hk⟩]; exact atF_z.symm
end CZ18
