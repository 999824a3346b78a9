/-! THE CLASS: vigils -/
theorem euc {a b : Nat} (hb : 0 < b) (h : b ≤ a) : 2 * (b * (a % b)) ≤ a * b := by
  have h1 := Nat.mod_lt a hb
  have h2 := Nat.div_add_mod a b
  have h3 : 1 ≤ a / b := Nat.div_pos h hb
  have h4 : b + a % b ≤ a := by
    have : b * 1 ≤ b * (a / b) := Nat.mul_le_mul_left b h3
    omega
  have h5 : 2 * (a % b) ≤ a := by omega
  calc 2 * (b * (a % b)) = b * (2 * (a % b)) := by rw [← Nat.mul_assoc, Nat.mul_comm 2 b, Nat.mul_assoc]
    _ ≤ b * a := Nat.mul_le_mul_left b h5
    _ = a * b := Nat.mul_comm _ _
theorem wf0 {T : Nat → Nat → Int32} {a : Nat → Nat} {tick f : Nat} (h : wf T f = 0) : vgC T a (f + 1) = vgC T a f ∧ vgS T a tick (f + 1) = vgS T a tick f := by
  refine ⟨?_, ?_⟩
  · show (if _ then _ else _) = _
    rw [h]; split <;> rfl
  · show (if _ then _ else _) = _
    rw [h, Nat.zero_mul]; split <;> rfl
theorem vgCl {T : Nat → Nat → Int32} {W H np len : Nat} (hI : RI T W H np len) (a : Nat → Nat) (tick : Nat) (ha : ∀ f, f < 4 → a f ≠ 1000 → a f < 96) : ∀ f, f ≤ 4 → vgC T a f ≤ 9 * f ∧ vgS T a tick f ≤ 864 * f ∧ (vgC T a f = 0 → vgS T a tick f = 0)
  | 0, _ => ⟨Nat.le_refl _, Nat.le_refl _, fun _ => rfl⟩
  | f + 1, hf => by
    obtain ⟨h1, h2, h3⟩ := vgCl hI a tick ha f (by omega)
    have hw : wf T f ≤ 9 := (hI.2.2.2.2.2.2.2.1 f (by omega)).2
    by_cases e : a f = 1000
    · have e1 : vgC T a (f + 1) = vgC T a f := if_pos e
      have e2 : vgS T a tick (f + 1) = vgS T a tick f := if_pos e
      rw [e1, e2]
      exact ⟨by omega, by omega, h3⟩
    · have e1 : vgC T a (f + 1) = vgC T a f + wf T f := if_neg e
      have e2 : vgS T a tick (f + 1) = vgS T a tick f + wf T f * (a f - tick) := if_neg e
      have h96 := ha f (by omega) e
      have hm : wf T f * (a f - tick) ≤ 9 * 96 := Nat.mul_le_mul hw (by omega)
      rw [e1, e2]
      refine ⟨by omega, by omega, fun q => ?_⟩
      have q1 : wf T f = 0 := by omega
      rw [h3 (by omega), q1, Nat.zero_mul]
section CO1
variable {w : jWD} {l : Launch} {n : Nat} {I : Nat → Nat → Int32} {L : Nat → Nat → Int64} {R : Nat → Nat → Option Nat}

set_option maxHeartbeats 1000000 in
set_option maxRecDepth 20000 in
theorem tX10_commonPart (hW : jWok w l) {a b : Nat} (ha : a < 4096) (hb : b < 4096) (hab : a * b < 2 ^ 24) (σ : jHS) : jCD w l mX10_commonPart 1 [.int (nI a), .int (nI b)] σ (some (.int (nI (Nat.gcd a b)))) σ := by
  refine jCD_of hW (by decide) rfl (Nat.le_of_ble_eq_true rfl) ?_
  have key : ∀ r i u v, i + r < 64 → u < 4096 → v ≤ u → u * v < 2 ^ r → Nat.gcd u v = Nat.gcd a b → jWP w l mX10_commonPart 1 0 0 (fun r t => r = some (.int (nI (Nat.gcd a b))) ∧ t = σ) (fun _ _ => False) 7 [(0, .int (nI a)), (1, .int (nI b)), (2, .int (nI u)), (3, .int (nI v)), (4, .int (nI i))] [] σ := by
    intro r
    induction r with
    | zero =>
      intro i u v hi hu hv hp hg
      have hz : v = 0 := by
        rcases Nat.eq_zero_or_pos v with z | z
        · exact z
        · have : 1 * 1 ≤ u * v := Nat.mul_le_mul (by omega) z
          omega
      refine jx_iload dX10_commonPart_7 rfl ?_
      refine jx_bipush (v := 64) dX10_commonPart_9 (by decide) ?_
      refine jx_icmpN_ge (a := i) (b := 64) 34 dX10_commonPart_11 (by decide) (by omega) (by omega) (fun h11 => ?_) (fun h11 => ?_)
      · exact absurd h11 (by omega)
      · refine jx_iload_n dX10_commonPart_14 rfl ?_
        refine jx_ifN_eq (a := v) 34 dX10_commonPart_15 (by decide) (by omega) (fun h15 => ?_) (fun h15 => ?_)
        · refine jx_iload_n dX10_commonPart_34 rfl ?_
          refine jx_iret dX10_commonPart_35 rfl ?_
          refine ⟨?_, rfl⟩
          rw [← hg, hz, Nat.gcd_zero_right]
        · exact absurd hz h15
    | succ r ih =>
      intro i u v hi hu hv hp hg
      refine jx_iload dX10_commonPart_7 rfl ?_
      refine jx_bipush (v := 64) dX10_commonPart_9 (by decide) ?_
      refine jx_icmpN_ge (a := i) (b := 64) 34 dX10_commonPart_11 (by decide) (by omega) (by omega) (fun h11 => ?_) (fun h11 => ?_)
      · exact absurd h11 (by omega)
      · refine jx_iload_n dX10_commonPart_14 rfl ?_
        refine jx_ifN_eq (a := v) 34 dX10_commonPart_15 (by decide) (by omega) (fun h15 => ?_) (fun h15 => ?_)
        · refine jx_iload_n dX10_commonPart_34 rfl ?_
          refine jx_iret dX10_commonPart_35 rfl ?_
          refine ⟨?_, rfl⟩
          rw [← hg, h15, Nat.gcd_zero_right]
        · have hv0 : 0 < v := by omega
          have hmv := Nat.mod_lt u hv0
          refine jx_iload_n dX10_commonPart_18 rfl ?_
          refine jx_iload_n dX10_commonPart_19 rfl ?_
          refine jx_iremE (z := nI (u % v)) dX10_commonPart_20 (nI_ne0 (n := v) (by omega) (by omega)) (pk_rem (a := u) (d := v) (by omega) (by omega) (by omega)) ?_
          refine jx_istore dX10_commonPart_21 (by decide) ?_
          refine jx_iload_n dX10_commonPart_23 rfl ?_
          refine jx_istore_n dX10_commonPart_24 rfl (by decide) ?_
          refine jx_iload dX10_commonPart_25 rfl ?_
          refine jx_istore_n dX10_commonPart_27 rfl (by decide) ?_
          refine jx_iinc dX10_commonPart_28 rfl (v := nI (i + 1)) (nI_1 _) (by decide) ?_
          refine jx_goto 7 dX10_commonPart_31 (by decide) ?_
          have he := euc hv0 hv
          have hg2 : Nat.gcd v (u % v) = Nat.gcd a b := by rw [← hg, Nat.gcd_comm u v, Nat.gcd_rec v u, Nat.gcd_comm]
          exact jx_ls (by exact ⟨rfl, rfl, rfl, rfl, rfl, trivial⟩) (ih (i + 1) v (u % v) (by omega) (by omega) (by omega) (by rw [Nat.pow_succ] at hp; omega) hg2)
  by_cases hc : b ≤ a
  · skip
    refine jx_iload_n dX10_commonPart_0 rfl ?_
    refine jx_istore_n dX10_commonPart_1 rfl (by decide) ?_
    refine jx_iload_n dX10_commonPart_2 rfl ?_
    refine jx_istore_n dX10_commonPart_3 rfl (by decide) ?_
    refine jx_iconst (v := 0) dX10_commonPart_4 (by decide) ?_
    refine jx_istore dX10_commonPart_5 (by decide) ?_
    exact jx_ls (by exact ⟨rfl, rfl, rfl, rfl, rfl, trivial⟩) (key 24 0 a b (by omega) ha hc hab rfl)
  · have hmod : a % b = a := Nat.mod_eq_of_lt (by omega)
    refine jx_iload_n dX10_commonPart_0 rfl ?_
    refine jx_istore_n dX10_commonPart_1 rfl (by decide) ?_
    refine jx_iload_n dX10_commonPart_2 rfl ?_
    refine jx_istore_n dX10_commonPart_3 rfl (by decide) ?_
    refine jx_iconst (v := 0) dX10_commonPart_4 (by decide) ?_
    refine jx_istore dX10_commonPart_5 (by decide) ?_
    refine jx_iload dX10_commonPart_7 rfl ?_
    refine jx_bipush (v := 64) dX10_commonPart_9 (by decide) ?_
    refine jx_icmpN_ge (a := 0) (b := 64) 34 dX10_commonPart_11 (by decide) (by decide) (by decide) (fun h11 => absurd h11 (by decide)) (fun h11 => ?_)
    refine jx_iload_n dX10_commonPart_14 rfl ?_
    refine jx_ifN_eq (a := b) 34 dX10_commonPart_15 (by decide) (by omega) (fun h15 => ?_) (fun h15 => ?_)
    · exact absurd h15 (by omega)
    · have hb0 : 0 < b := by omega
      refine jx_iload_n dX10_commonPart_18 rfl ?_
      refine jx_iload_n dX10_commonPart_19 rfl ?_
      refine jx_iremE (z := nI (a % b)) dX10_commonPart_20 (nI_ne0 (n := b) (by omega) (by omega)) (pk_rem (a := a) (d := b) (by omega) (by omega) (by omega)) ?_
      refine jx_istore dX10_commonPart_21 (by decide) ?_
      refine jx_iload_n dX10_commonPart_23 rfl ?_
      refine jx_istore_n dX10_commonPart_24 rfl (by decide) ?_
      refine jx_iload dX10_commonPart_25 rfl ?_
      refine jx_istore_n dX10_commonPart_27 rfl (by decide) ?_
      refine jx_iinc dX10_commonPart_28 rfl (v := nI (0 + 1)) (nI_1 _) (by decide) ?_
      refine jx_goto 7 dX10_commonPart_31 (by decide) ?_
      rw [hmod]
      exact jx_ls (by exact ⟨rfl, rfl, rfl, rfl, rfl, trivial⟩) (key 24 1 b a (by omega) hb (by omega) (by rw [Nat.mul_comm]; exact hab) (Nat.gcd_comm b a))
set_option maxHeartbeats 1000000 in
set_option maxRecDepth 20000 in
theorem tX10_vigil (hW : jWok w l) (hR : RS R) {h : Nat} {T : Nat → Nat → Int32} {W H np len : Nat} (hX : CX I L R h T W H np len) {p day tick k : Nat} (hp : p < np) (hd : day ≤ 40) (ht : tick < 96) (hk : k ≤ 3) : jQ w l mX10_vigil 7 [.ref 1000, .int (nI p), .int (nI day), .int (nI tick), .int (nI k)] n I L R h T W H np len (nI (vgV (pfx T 4) (vgC T (fun f => arr T W H len day (T 1072 7) p f tick) 4) (vgS T (fun f => arr T W H len day (T 1072 7) p f tick) tick 4) k)) := by
  refine jRi_of hW (by decide) rfl (Nat.le_of_ble_eq_true rfl) ?_
  have hX0 := hX
  obtain ⟨⟨⟨hh, hRi⟩, hI, hRI, hok, hFL, hSK⟩, hRh⟩ := hX
  have hT := RI.tq hRI
  have hw := hT.1
  have hhh := hT.2.1
  have hwh : W * H ≤ 63 := Nat.mul_le_mul hw.2 hhh.2
  have hn6 := hRI.2.2.2.2.1.2
  have hf := hRI.2.2.2.2.2.2.2.1
  have hpa : ∀ f, f < 4 → 1 ≤ pcOf T p f := fun f _ => by
    obtain ⟨⟨-, a1⟩, ⟨-, a2, a3⟩, -⟩ := hRI.2.2.2.2.2.1 p hp
    unfold pcOf paceOf; split <;> omega
  have ha : ∀ f, f < 4 → (fun f => arr T W H len day (T 1072 7) p f tick) f ≠ 1000 → (fun f => arr T W H len day (T 1072 7) p f tick) f < 96 := fun f hf4 q => sn_last (hpa f hf4) _ _ tick ht rfl q
  have hge : ∀ f, f < 4 → tick ≤ (fun f => arr T W H len day (T 1072 7) p f tick) f := fun f hf4 => sn_ge (hpa f hf4) _ _ tick ht rfl
  have hle := fun f => vgCl hRI (fun f => arr T W H len day (T 1072 7) p f tick) tick ha f
  have hp36 := pfx_le hRI 4 (by omega)
  have hp0 : 0 < pfx T 4 := by
    have := hRI.2.2.2.2.2.2.2.2
    have e : pfx T 4 = cN (T 1072 12) + cN (T 1072 13) + cN (T 1072 14) + cN (T 1072 15) := by
      show (((0 + wf T 0) + wf T 1) + wf T 2) + wf T 3 = _
      rw [Nat.zero_add]; rfl
    omega
  have fin : ∀ (J : Nat → Nat → Int32) (M : Nat → Nat → Int64), eqC I J → eqCL L M → CF J M R h T W H np len → jWP w l mX10_vigil 7 0 0 (fun v t => ∃ r, v = some (.int r) ∧ (r = nI (vgV (pfx T 4) (vgC T (fun f => arr T W H len day (T 1072 7) p f tick) 4) (vgS T (fun f => arr T W H len day (T 1072 7) p f tick) tick 4) k) ∧ ∃ J M', t = (n, shE, J, M', R) ∧ eqC I J ∧ eqCL L M' ∧ CX J M' R h T W H np len)) (fun _ _ => False) 110 [(0, .ref 1000), (1, .int (nI p)), (2, .int (nI day)), (3, .int (nI tick)), (4, .int (nI k)), (5, .int (nI (vgC T (fun f => arr T W H len day (T 1072 7) p f tick) 4))), (6, .int (nI (vgS T (fun f => arr T W H len day (T 1072 7) p f tick) tick 4)))] [] (n, shE, J, M, R) := by
    intro J M e1 e2 hC
    obtain ⟨l1, l2, l3⟩ := hle 4 (by omega)
    generalize vgC T (fun f => arr T W H len day (T 1072 7) p f tick) 4 = can at l1 l3 ⊢
    generalize vgS T (fun f => arr T W H len day (T 1072 7) p f tick) tick 4 = sum at l2 l3 ⊢
    generalize hall : pfx T 4 = all at hp36 hp0 ⊢
    have hd2 : ∀ x y : Nat, Nat.gcd x y ≤ x ∨ x = 0 := fun x y => by
      rcases Nat.eq_zero_or_pos x with z | z
      · exact Or.inr z
      · exact Or.inl (Nat.gcd_le_left y z)
    rcases hh with rfl | rfl
    all_goals
    refine jx_iload dX10_vigil_110 rfl ?_
    refine jx_iconst (v := 2) dX10_vigil_112 (by decide) ?_
    refine jx_icmpN_ge (a := k) (b := 2) 121 dX10_vigil_113 (by decide) (by omega) (by omega) (fun h113 => ?_) (fun h113 => ?_)
    · skip
      refine jx_iload dX10_vigil_121 rfl ?_
      refine jx_istore dX10_vigil_123 (by decide) ?_
      refine jx_iload dX10_vigil_125 rfl ?_
      refine jx_iconst (v := 2) dX10_vigil_127 (by decide) ?_
      refine jx_icmpN_ge (a := k) (b := 2) 141 dX10_vigil_128 (by decide) (by omega) (by omega) (fun h128 => ?_) (fun h128 => ?_)
      · refine jx_iload dX10_vigil_141 rfl ?_
        refine jx_istore dX10_vigil_143 (by decide) ?_
        have hgl := hd2 sum can
        have hgr : Nat.gcd sum can ≤ can ∨ can = 0 := by rw [Nat.gcd_comm]; exact hd2 can sum
        refine jx_iload dX10_vigil_145 rfl ?_
        refine jx_iload dX10_vigil_147 rfl ?_
        refine jx_Si (as := [.int _, .int _]) dX10_vigil_149 mlX10_351 okX10_commonPart stX10_commonPart rfl rfl (by decide) (Nat.le_of_ble_eq_true rfl) (tX10_commonPart hW (a := sum) (b := can) (by omega) (by omega) (by have : sum * can ≤ 3456 * 36 := Nat.mul_le_mul (by omega) (by omega); omega) _) ?_
        refine jx_istore dX10_vigil_152 (by decide) ?_
        refine jx_iload dX10_vigil_154 rfl ?_
        refine jx_ifN_eq (a := sum) 164 dX10_vigil_156 (by decide) (by omega) (fun h156 => ?_) (fun h156 => ?_)
        · refine jx_iload dX10_vigil_164 rfl ?_
          refine jx_iconst (v := 2) dX10_vigil_166 (by decide) ?_
          refine jx_iremE (z := nI (k % 2)) dX10_vigil_167 (nI_ne0 (n := 2) (by omega) (by omega)) (pk_rem (a := k) (d := 2) (by omega) (by omega) (by omega)) ?_
          refine jx_iret dX10_vigil_168 rfl ?_
          have hk2 : ¬ k < 2 := by omega
          refine ⟨_, rfl, congrArg nI ?_, J, M, rfl, e1, e2, hC, hRh⟩
          unfold vgV
          rw [if_neg hk2]
          first
            | (have q : sum = 0 := h156
               rw [q]
               by_cases hk : k = 2
               · rw [if_pos hk, Nat.zero_div]; omega
               · rw [if_neg hk]
                 by_cases c0 : can = 0
                 · rw [if_pos c0]; omega
                 · rw [if_neg c0, Nat.gcd_zero_right, Nat.div_self (by omega)]; omega)
            | (exfalso
               have q : Nat.gcd sum can = 0 := h161
               exact absurd (Nat.eq_zero_of_gcd_eq_zero_left q) (by omega))
            | (have c0 : ¬ can = 0 := fun q => h156 (l3 q)
               rw [if_pos (show k = 2 by omega), if_neg c0, Nat.gcd_comm])
            | (have c0 : ¬ can = 0 := fun q => h156 (l3 q)
               rw [if_neg (show ¬ k = 2 by omega), if_neg c0, Nat.gcd_comm])
        · refine jx_iload dX10_vigil_159 rfl ?_
          refine jx_ifN_ne (a := (Nat.gcd sum can)) 169 dX10_vigil_161 (by decide) (by omega) (fun h161 => ?_) (fun h161 => ?_)
          · refine jx_iload dX10_vigil_169 rfl ?_
            refine jx_iconst (v := 2) dX10_vigil_171 (by decide) ?_
            refine jx_iremE (z := nI (k % 2)) dX10_vigil_172 (nI_ne0 (n := 2) (by omega) (by omega)) (pk_rem (a := k) (d := 2) (by omega) (by omega) (by omega)) ?_
            refine jx_ifN_ne (a := (k % 2)) 184 dX10_vigil_173 (by decide) (by omega) (fun h173 => ?_) (fun h173 => ?_)
            · refine jx_iload dX10_vigil_184 rfl ?_
              refine jx_iload dX10_vigil_186 rfl ?_
              refine jx_idivE (z := nI (can / (Nat.gcd sum can))) dX10_vigil_188 (nI_ne0 (n := (Nat.gcd sum can)) (by omega) (by omega)) (pk_div (a := can) (d := (Nat.gcd sum can)) (by omega) (by omega) (by omega)) ?_
              refine jx_iret dX10_vigil_189 rfl ?_
              have hk2 : ¬ k < 2 := by omega
              refine ⟨_, rfl, congrArg nI ?_, J, M, rfl, e1, e2, hC, hRh⟩
              unfold vgV
              rw [if_neg hk2]
              first
                | (have q : sum = 0 := h156
                   rw [q]
                   by_cases hk : k = 2
                   · rw [if_pos hk, Nat.zero_div]; omega
                   · rw [if_neg hk]
                     by_cases c0 : can = 0
                     · rw [if_pos c0]; omega
                     · rw [if_neg c0, Nat.gcd_zero_right, Nat.div_self (by omega)]; omega)
                | (exfalso
                   have q : Nat.gcd sum can = 0 := h161
                   exact absurd (Nat.eq_zero_of_gcd_eq_zero_left q) (by omega))
                | (have c0 : ¬ can = 0 := fun q => h156 (l3 q)
                   rw [if_pos (show k = 2 by omega), if_neg c0, Nat.gcd_comm])
                | (have c0 : ¬ can = 0 := fun q => h156 (l3 q)
                   rw [if_neg (show ¬ k = 2 by omega), if_neg c0, Nat.gcd_comm])
            · refine jx_iload dX10_vigil_176 rfl ?_
              refine jx_iload dX10_vigil_178 rfl ?_
              refine jx_idivE (z := nI (sum / (Nat.gcd sum can))) dX10_vigil_180 (nI_ne0 (n := (Nat.gcd sum can)) (by omega) (by omega)) (pk_div (a := sum) (d := (Nat.gcd sum can)) (by omega) (by omega) (by omega)) ?_
              refine jx_goto 189 dX10_vigil_181 (by decide) ?_
              refine jx_iret dX10_vigil_189 rfl ?_
              have hk2 : ¬ k < 2 := by omega
              refine ⟨_, rfl, congrArg nI ?_, J, M, rfl, e1, e2, hC, hRh⟩
              unfold vgV
              rw [if_neg hk2]
              first
                | (have q : sum = 0 := h156
                   rw [q]
                   by_cases hk : k = 2
                   · rw [if_pos hk, Nat.zero_div]; omega
                   · rw [if_neg hk]
                     by_cases c0 : can = 0
                     · rw [if_pos c0]; omega
                     · rw [if_neg c0, Nat.gcd_zero_right, Nat.div_self (by omega)]; omega)
                | (exfalso
                   have q : Nat.gcd sum can = 0 := h161
                   exact absurd (Nat.eq_zero_of_gcd_eq_zero_left q) (by omega))
                | (have c0 : ¬ can = 0 := fun q => h156 (l3 q)
                   rw [if_pos (show k = 2 by omega), if_neg c0, Nat.gcd_comm])
                | (have c0 : ¬ can = 0 := fun q => h156 (l3 q)
                   rw [if_neg (show ¬ k = 2 by omega), if_neg c0, Nat.gcd_comm])
          · skip
            refine jx_iload dX10_vigil_164 rfl ?_
            refine jx_iconst (v := 2) dX10_vigil_166 (by decide) ?_
            refine jx_iremE (z := nI (k % 2)) dX10_vigil_167 (nI_ne0 (n := 2) (by omega) (by omega)) (pk_rem (a := k) (d := 2) (by omega) (by omega) (by omega)) ?_
            refine jx_iret dX10_vigil_168 rfl ?_
            have hk2 : ¬ k < 2 := by omega
            refine ⟨_, rfl, congrArg nI ?_, J, M, rfl, e1, e2, hC, hRh⟩
            unfold vgV
            rw [if_neg hk2]
            first
              | (have q : sum = 0 := h156
                 rw [q]
                 by_cases hk : k = 2
                 · rw [if_pos hk, Nat.zero_div]; omega
                 · rw [if_neg hk]
                   by_cases c0 : can = 0
                   · rw [if_pos c0]; omega
                   · rw [if_neg c0, Nat.gcd_zero_right, Nat.div_self (by omega)]; omega)
              | (exfalso
                 have q : Nat.gcd sum can = 0 := h161
                 exact absurd (Nat.eq_zero_of_gcd_eq_zero_left q) (by omega))
              | (have c0 : ¬ can = 0 := fun q => h156 (l3 q)
                 rw [if_pos (show k = 2 by omega), if_neg c0, Nat.gcd_comm])
              | (have c0 : ¬ can = 0 := fun q => h156 (l3 q)
                 rw [if_neg (show ¬ k = 2 by omega), if_neg c0, Nat.gcd_comm])
      · exact absurd h128 (by omega)
    · skip
      refine jx_iload dX10_vigil_116 rfl ?_
      refine jx_goto 123 dX10_vigil_118 (by decide) ?_
      refine jx_istore dX10_vigil_123 (by decide) ?_
      refine jx_iload dX10_vigil_125 rfl ?_
      refine jx_iconst (v := 2) dX10_vigil_127 (by decide) ?_
      refine jx_icmpN_ge (a := k) (b := 2) 141 dX10_vigil_128 (by decide) (by omega) (by omega) (fun h128 => ?_) (fun h128 => ?_)
      · exact absurd h128 (by omega)
      · refine jx_aload_n dX10_vigil_131 rfl ?_
        refine jx_getR dX10_vigil_132 flX10_32 rfl rfl hRh ?_
        refine jx_Vi (as := []) dX10_vigil_135 mlX10_348 okX1_fogWeight viX1_fogWeight rfl rfl rfl rfl rfl (by decide) (Nat.le_of_ble_eq_true rfl) (tX1_fogWeight hW hR (by decide) hC.2.1 hRI) ?_
        rw [hall]
        refine jx_goto 143 dX10_vigil_138 (by decide) ?_
        refine jx_istore dX10_vigil_143 (by decide) ?_
        have hgl := hd2 can all
        have hgr : Nat.gcd can all ≤ all ∨ all = 0 := by rw [Nat.gcd_comm]; exact hd2 all can
        refine jx_iload dX10_vigil_145 rfl ?_
        refine jx_iload dX10_vigil_147 rfl ?_
        refine jx_Si (as := [.int _, .int _]) dX10_vigil_149 mlX10_351 okX10_commonPart stX10_commonPart rfl rfl (by decide) (Nat.le_of_ble_eq_true rfl) (tX10_commonPart hW (a := can) (b := all) (by omega) (by omega) (by have : can * all ≤ 3456 * 36 := Nat.mul_le_mul (by omega) (by omega); omega) _) ?_
        refine jx_istore dX10_vigil_152 (by decide) ?_
        refine jx_iload dX10_vigil_154 rfl ?_
        refine jx_ifN_eq (a := can) 164 dX10_vigil_156 (by decide) (by omega) (fun h156 => ?_) (fun h156 => ?_)
        · refine jx_iload dX10_vigil_164 rfl ?_
          refine jx_iconst (v := 2) dX10_vigil_166 (by decide) ?_
          refine jx_iremE (z := nI (k % 2)) dX10_vigil_167 (nI_ne0 (n := 2) (by omega) (by omega)) (pk_rem (a := k) (d := 2) (by omega) (by omega) (by omega)) ?_
          refine jx_iret dX10_vigil_168 rfl ?_
          have hk2 : k < 2 := by omega
          refine ⟨_, rfl, congrArg nI ?_, J, M, rfl, e1, e2, hC, hRh⟩
          unfold vgV
          rw [if_pos hk2]
          first
            | (have q : can = 0 := h156
               rw [q, Nat.gcd_zero_right, Nat.zero_div, Nat.div_self hp0]
               split <;> omega)
            | (exfalso
               have q : Nat.gcd can all = 0 := h161
               exact absurd (Nat.eq_zero_of_gcd_eq_zero_right q) (by omega))
            | (rw [if_pos (show k = 0 by omega), Nat.gcd_comm])
            | (rw [if_neg (show ¬ k = 0 by omega), Nat.gcd_comm])
        · refine jx_iload dX10_vigil_159 rfl ?_
          refine jx_ifN_ne (a := (Nat.gcd can all)) 169 dX10_vigil_161 (by decide) (by omega) (fun h161 => ?_) (fun h161 => ?_)
          · refine jx_iload dX10_vigil_169 rfl ?_
            refine jx_iconst (v := 2) dX10_vigil_171 (by decide) ?_
            refine jx_iremE (z := nI (k % 2)) dX10_vigil_172 (nI_ne0 (n := 2) (by omega) (by omega)) (pk_rem (a := k) (d := 2) (by omega) (by omega) (by omega)) ?_
            refine jx_ifN_ne (a := (k % 2)) 184 dX10_vigil_173 (by decide) (by omega) (fun h173 => ?_) (fun h173 => ?_)
            · refine jx_iload dX10_vigil_184 rfl ?_
              refine jx_iload dX10_vigil_186 rfl ?_
              refine jx_idivE (z := nI (all / (Nat.gcd can all))) dX10_vigil_188 (nI_ne0 (n := (Nat.gcd can all)) (by omega) (by omega)) (pk_div (a := all) (d := (Nat.gcd can all)) (by omega) (by omega) (by omega)) ?_
              refine jx_iret dX10_vigil_189 rfl ?_
              have hk2 : k < 2 := by omega
              refine ⟨_, rfl, congrArg nI ?_, J, M, rfl, e1, e2, hC, hRh⟩
              unfold vgV
              rw [if_pos hk2]
              first
                | (have q : can = 0 := h156
                   rw [q, Nat.gcd_zero_right, Nat.zero_div, Nat.div_self hp0]
                   split <;> omega)
                | (exfalso
                   have q : Nat.gcd can all = 0 := h161
                   exact absurd (Nat.eq_zero_of_gcd_eq_zero_right q) (by omega))
                | (rw [if_pos (show k = 0 by omega), Nat.gcd_comm])
                | (rw [if_neg (show ¬ k = 0 by omega), Nat.gcd_comm])
            · refine jx_iload dX10_vigil_176 rfl ?_
              refine jx_iload dX10_vigil_178 rfl ?_
              refine jx_idivE (z := nI (can / (Nat.gcd can all))) dX10_vigil_180 (nI_ne0 (n := (Nat.gcd can all)) (by omega) (by omega)) (pk_div (a := can) (d := (Nat.gcd can all)) (by omega) (by omega) (by omega)) ?_
              refine jx_goto 189 dX10_vigil_181 (by decide) ?_
              refine jx_iret dX10_vigil_189 rfl ?_
              have hk2 : k < 2 := by omega
              refine ⟨_, rfl, congrArg nI ?_, J, M, rfl, e1, e2, hC, hRh⟩
              unfold vgV
              rw [if_pos hk2]
              first
                | (have q : can = 0 := h156
                   rw [q, Nat.gcd_zero_right, Nat.zero_div, Nat.div_self hp0]
                   split <;> omega)
                | (exfalso
                   have q : Nat.gcd can all = 0 := h161
                   exact absurd (Nat.eq_zero_of_gcd_eq_zero_right q) (by omega))
                | (rw [if_pos (show k = 0 by omega), Nat.gcd_comm])
                | (rw [if_neg (show ¬ k = 0 by omega), Nat.gcd_comm])
          · skip
            refine jx_iload dX10_vigil_164 rfl ?_
            refine jx_iconst (v := 2) dX10_vigil_166 (by decide) ?_
            refine jx_iremE (z := nI (k % 2)) dX10_vigil_167 (nI_ne0 (n := 2) (by omega) (by omega)) (pk_rem (a := k) (d := 2) (by omega) (by omega) (by omega)) ?_
            refine jx_iret dX10_vigil_168 rfl ?_
            have hk2 : k < 2 := by omega
            refine ⟨_, rfl, congrArg nI ?_, J, M, rfl, e1, e2, hC, hRh⟩
            unfold vgV
            rw [if_pos hk2]
            first
              | (have q : can = 0 := h156
                 rw [q, Nat.gcd_zero_right, Nat.zero_div, Nat.div_self hp0]
                 split <;> omega)
              | (exfalso
                 have q : Nat.gcd can all = 0 := h161
                 exact absurd (Nat.eq_zero_of_gcd_eq_zero_right q) (by omega))
              | (rw [if_pos (show k = 0 by omega), Nat.gcd_comm])
              | (rw [if_neg (show ¬ k = 0 by omega), Nat.gcd_comm])
  have key : ∀ f, f ≤ 4 → ∀ (J : Nat → Nat → Int32) (M : Nat → Nat → Int64), eqC I J → eqCL L M → CF J M R h T W H np len → jWP w l mX10_vigil 7 0 0 (fun v t => ∃ r, v = some (.int r) ∧ (r = nI (vgV (pfx T 4) (vgC T (fun f => arr T W H len day (T 1072 7) p f tick) 4) (vgS T (fun f => arr T W H len day (T 1072 7) p f tick) tick 4) k) ∧ ∃ J M', t = (n, shE, J, M', R) ∧ eqC I J ∧ eqCL L M' ∧ CX J M' R h T W H np len)) (fun _ _ => False) 38 [(0, .ref 1000), (1, .int (nI p)), (2, .int (nI day)), (3, .int (nI tick)), (4, .int (nI k)), (5, .int (nI (vgC T (fun f => arr T W H len day (T 1072 7) p f tick) f))), (6, .int (nI (vgS T (fun f => arr T W H len day (T 1072 7) p f tick) tick f))), (7, .int (nI f))] [] (n, shE, J, M, R) := by
    refine jdown _ (fun f hf4 ih => ?_)
    intro J M e1 e2 hC
    obtain ⟨l1, l2, -⟩ := hle f hf4
    rcases hh with rfl | rfl
    all_goals
    refine jx_iload dX10_vigil_38 rfl ?_
    refine jx_iconst (v := 4) dX10_vigil_40 (by decide) ?_
    refine jx_icmpN_ge (a := f) (b := 4) 110 dX10_vigil_41 (by decide) (by omega) (by omega) (fun h41 => ?_) (fun h41 => ?_)
    · have hf4e : f = 4 := by omega
      subst hf4e
      exact jx_ls (by exact ⟨rfl, rfl, rfl, rfl, rfl, rfl, rfl, trivial⟩) (fin J M e1 e2 hC)
    · have hk9 := (hf f (by omega)).2
      refine jx_aload_n dX10_vigil_44 rfl ?_
      refine jx_getR dX10_vigil_45 flX10_32 rfl rfl hRh ?_
      refine jx_getR dX10_vigil_48 flX10_150 rfl rfl (hR _ _ _ rfl) ?_
      refine jx_iload dX10_vigil_51 rfl ?_
      refine jx_ialdE (f) dX10_vigil_53 rfl (rfl) (by omega) (by omega) ((hC.2.1.2.2.2.2 f (by omega)).trans (hf f (by omega)).1) ?_
      refine jx_istore dX10_vigil_54 (by decide) ?_
      refine jx_iload dX10_vigil_56 rfl ?_
      refine jx_ifN_ne (a := (cN (T 1072 (12 + f)))) 65 dX10_vigil_58 (by decide) (by omega) (fun h58 => ?_) (fun h58 => ?_)
      · refine jx_aload_n dX10_vigil_65 rfl ?_
        refine jx_getR dX10_vigil_66 flX10_44 rfl rfl (hR _ _ _ rfl) ?_
        refine jx_iload_n dX10_vigil_69 rfl ?_
        refine jx_iload_n dX10_vigil_70 rfl ?_
        refine jx_iload_n dX10_vigil_71 rfl ?_
        refine jx_iload dX10_vigil_72 rfl ?_
        refine jx_VRi (as := [.int _, .int _, .int _, .int _]) dX10_vigil_74 mlX10_344 okX0_arrivalInFog viX0_arrivalInFog rfl rfl rfl rfl rfl (by decide) (Nat.le_of_ble_eq_true rfl) (tX0_arrivalInFog hW hR hC hp hd ht (fog := f) (by omega)) (fun x74 t74 hq74 => ?_)
        obtain ⟨rfl, J2, M2, rfl, f1, f2, hC2, -⟩ := hq74
        have ha1 := arr_le T W H len day (T 1072 7) p f tick
        have hm1 := aI_m (v := arr T W H len day (T 1072 7) p f tick) (by omega)
        refine jx_istore dX10_vigil_77 (by decide) ?_
        refine jx_iload dX10_vigil_79 rfl ?_
        refine jx_iconst (v := -1) dX10_vigil_81 (by decide) ?_
        refine jx_icmp_eq 104 dX10_vigil_82 (by decide) (fun h82 => ?_) (fun h82 => ?_)
        · skip
          refine jx_iinc dX10_vigil_104 rfl (v := nI (f + 1)) (nI_1 _) (by decide) ?_
          refine jx_goto 38 dX10_vigil_107 (by decide) ?_
          have w1 : vgC T (fun f => arr T W H len day (T 1072 7) p f tick) (f + 1) = vgC T (fun f => arr T W H len day (T 1072 7) p f tick) f := if_pos (hm1.mp h82)
          have w2 : vgS T (fun f => arr T W H len day (T 1072 7) p f tick) tick (f + 1) = vgS T (fun f => arr T W H len day (T 1072 7) p f tick) tick f := if_pos (hm1.mp h82)
          have kk := ih (by omega) J2 M2 (eqC_t e1 f1) (eqCL_t e2 f2) hC2
          rw [w1, w2] at kk
          exact jx_ls (by exact ⟨rfl, rfl, rfl, rfl, rfl, rfl, rfl, rfl, trivial⟩) kk
        · have hne : ¬ arr T W H len day (T 1072 7) p f tick = 1000 := fun q => h82 (hm1.mpr q)
          have hg1 : tick ≤ arr T W H len day (T 1072 7) p f tick := hge f (by omega)
          have hl1 : arr T W H len day (T 1072 7) p f tick < 96 := ha f (by omega) hne
          have hm9 : cN (T 1072 (12 + f)) * (arr T W H len day (T 1072 7) p f tick - tick) ≤ 9 * 96 := Nat.mul_le_mul hk9 (by omega)
          rw [aI_v hne]
          refine jx_iload dX10_vigil_85 rfl ?_
          refine jx_iload dX10_vigil_87 rfl ?_
          refine jx_iaddE (z := nI ((vgC T (fun f => arr T W H len day (T 1072 7) p f tick) f) + (cN (T 1072 (12 + f))))) dX10_vigil_89 (nI_add (vgC T (fun f => arr T W H len day (T 1072 7) p f tick) f) (cN (T 1072 (12 + f)))) ?_
          refine jx_istore dX10_vigil_90 (by decide) ?_
          refine jx_iload dX10_vigil_92 rfl ?_
          refine jx_iload dX10_vigil_94 rfl ?_
          refine jx_iload dX10_vigil_96 rfl ?_
          refine jx_iload_n dX10_vigil_98 rfl ?_
          refine jx_isubE (z := nI ((arr T W H len day (T 1072 7) p f tick) - tick)) dX10_vigil_99 (pk_sub (a := (arr T W H len day (T 1072 7) p f tick)) (b := tick) (by omega)) ?_
          refine jx_imulE (z := nI ((cN (T 1072 (12 + f))) * ((arr T W H len day (T 1072 7) p f tick) - tick))) dX10_vigil_100 (pk_mul (cN (T 1072 (12 + f))) ((arr T W H len day (T 1072 7) p f tick) - tick)) ?_
          refine jx_iaddE (z := nI ((vgS T (fun f => arr T W H len day (T 1072 7) p f tick) tick f) + ((cN (T 1072 (12 + f))) * ((arr T W H len day (T 1072 7) p f tick) - tick)))) dX10_vigil_101 (nI_add (vgS T (fun f => arr T W H len day (T 1072 7) p f tick) tick f) ((cN (T 1072 (12 + f))) * ((arr T W H len day (T 1072 7) p f tick) - tick))) ?_
          refine jx_istore dX10_vigil_102 (by decide) ?_
          refine jx_iinc dX10_vigil_104 rfl (v := nI (f + 1)) (nI_1 _) (by decide) ?_
          refine jx_goto 38 dX10_vigil_107 (by decide) ?_
          have w1 : vgC T (fun f => arr T W H len day (T 1072 7) p f tick) (f + 1) = vgC T (fun f => arr T W H len day (T 1072 7) p f tick) f + cN (T 1072 (12 + f)) := if_neg hne
          have w2 : vgS T (fun f => arr T W H len day (T 1072 7) p f tick) tick (f + 1) = vgS T (fun f => arr T W H len day (T 1072 7) p f tick) tick f + cN (T 1072 (12 + f)) * (arr T W H len day (T 1072 7) p f tick - tick) := if_neg hne
          have kk := ih (by omega) J2 M2 (eqC_t e1 f1) (eqCL_t e2 f2) hC2
          rw [w1, w2] at kk
          exact jx_ls (by exact ⟨rfl, rfl, rfl, rfl, rfl, rfl, rfl, rfl, trivial⟩) kk
      · skip
        refine jx_iconst (v := -1) dX10_vigil_61 (by decide) ?_
        refine jx_goto 77 dX10_vigil_62 (by decide) ?_
        refine jx_istore dX10_vigil_77 (by decide) ?_
        refine jx_iload dX10_vigil_79 rfl ?_
        refine jx_iconst (v := -1) dX10_vigil_81 (by decide) ?_
        refine jx_icmp_eq 104 dX10_vigil_82 (by decide) (fun h82 => ?_) (fun h82 => ?_)
        · skip
          refine jx_iinc dX10_vigil_104 rfl (v := nI (f + 1)) (nI_1 _) (by decide) ?_
          refine jx_goto 38 dX10_vigil_107 (by decide) ?_
          obtain ⟨w1, w2⟩ := wf0 (T := T) (a := (fun f => arr T W H len day (T 1072 7) p f tick)) (tick := tick) (f := f) h58
          have kk := ih (by omega) J M e1 e2 hC
          rw [w1, w2] at kk
          exact jx_ls (by exact ⟨rfl, rfl, rfl, rfl, rfl, rfl, rfl, rfl, trivial⟩) kk
        · skip
          exact absurd rfl h82
  refine jx_aload_n dX10_vigil_0 rfl ?_
  refine jx_iload_n dX10_vigil_1 rfl ?_
  refine jx_iload_n dX10_vigil_2 rfl ?_
  refine jx_iload_n dX10_vigil_3 rfl ?_
  refine jx_Vv (as := [.int _, .int _, .int _]) dX10_vigil_4 mlX10_225 okX10_needStart viX10_needStart rfl rfl rfl rfl rfl (by decide) (Nat.le_of_ble_eq_true rfl) (tX10_needStart hW hR hX0 hp (by omega) ht) ?_
  refine jx_iload dX10_vigil_7 rfl ?_
  refine jx_ifN_lt (a := k) 18 dX10_vigil_9 (by decide) (by omega) ?_
  refine jx_iload dX10_vigil_12 rfl ?_
  refine jx_iconst (v := 3) dX10_vigil_14 (by decide) ?_
  refine jx_icmpN_le (a := k) (b := 3) 29 dX10_vigil_15 (by decide) (by omega) (by omega) (fun h15 => ?_) (fun h15 => ?_)
  · refine jx_iconst (v := 0) dX10_vigil_29 (by decide) ?_
    refine jx_istore dX10_vigil_30 (by decide) ?_
    refine jx_iconst (v := 0) dX10_vigil_32 (by decide) ?_
    refine jx_istore dX10_vigil_33 (by decide) ?_
    refine jx_iconst (v := 0) dX10_vigil_35 (by decide) ?_
    refine jx_istore dX10_vigil_36 (by decide) ?_
    exact jx_ls (by exact ⟨rfl, rfl, rfl, rfl, rfl, rfl, rfl, rfl, trivial⟩) (key 0 (by omega) I L (eqC_r I) (eqCL_r L) hX0.1)
  · exact absurd h15 (by omega)
set_option maxHeartbeats 1000000 in
set_option maxRecDepth 20000 in
theorem tX10_vigilF (hW : jWok w l) (hR : RS R) {h : Nat} {T : Nat → Nat → Int32} {W H np len : Nat} (hX : CX I L R h T W H np len) (p day tick k : Int32) (hbad : ¬ (ltQ p np = true ∧ dayQ day = true ∧ tickQ tick = true ∧ 0 ≤ k.toInt ∧ k.toInt ≤ 3)) : jTh w l mX10_vigil 3 [.ref 1000, .int p, .int day, .int tick, .int k] n I L R eN := by
  refine jTh_of hW (by decide) rfl (Nat.le_of_ble_eq_true rfl) ?_
  by_cases q : ltQ p np = true ∧ dayQ day = true ∧ tickQ tick = true
  · obtain ⟨p', rfl, hv0⟩ := ltQ_n q.1
    obtain ⟨d', rfl, hv1⟩ := dayQ_n q.2.1
    obtain ⟨t', rfl, hv2⟩ := tickQ_n q.2.2
    refine jx_aload_n dX10_vigil_0 rfl ?_
    refine jx_iload_n dX10_vigil_1 rfl ?_
    refine jx_iload_n dX10_vigil_2 rfl ?_
    refine jx_iload_n dX10_vigil_3 rfl ?_
    refine jx_Vv (as := [.int _, .int _, .int _]) dX10_vigil_4 mlX10_225 okX10_needStart viX10_needStart rfl rfl rfl rfl rfl (by decide) (Nat.le_of_ble_eq_true rfl) (tX10_needStart hW hR hX hv0 hv1 hv2) ?_
    refine jx_iload dX10_vigil_7 rfl ?_
    refine jx_if_lt 18 dX10_vigil_9 (by decide) (fun h9 => ?_) (fun h9 => ?_)
    · exact jx_thN (is := 342) (len := 3) 40 rfl rfl rfl rfl rfl (Nat.le_of_ble_eq_true rfl) dX10_vigil_18 dX10_vigil_21 (Or.inr ⟨dX10_vigil_22, rfl⟩) dX10_vigil_25 dX10_vigil_28 (by decide) (by decide) (fun n1 hn1 => ⟨rfl, n1, hn1, rfl⟩)
    · refine jx_iload dX10_vigil_12 rfl ?_
      refine jx_iconst (v := 3) dX10_vigil_14 (by decide) ?_
      refine jx_icmp_le 29 dX10_vigil_15 (by decide) (fun h15 => ?_) (fun h15 => ?_)
      · exact absurd ⟨q.1, q.2.1, q.2.2, Int.not_lt.mp (fun z => h9 (i32_l0.mpr z)), by have z := Int32.le_iff_toInt_le.mp h15; exact z⟩ hbad
      · exact jx_thN (is := 342) (len := 3) 40 rfl rfl rfl rfl rfl (Nat.le_of_ble_eq_true rfl) dX10_vigil_18 dX10_vigil_21 (Or.inr ⟨dX10_vigil_22, rfl⟩) dX10_vigil_25 dX10_vigil_28 (by decide) (by decide) (fun n1 hn1 => ⟨rfl, n1, hn1, rfl⟩)
  · skip
    refine jx_aload_n dX10_vigil_0 rfl ?_
    refine jx_iload_n dX10_vigil_1 rfl ?_
    refine jx_iload_n dX10_vigil_2 rfl ?_
    refine jx_iload_n dX10_vigil_3 rfl ?_
    exact jx_VT (as := [.int _, .int _, .int _]) dX10_vigil_4 mlX10_225 okX10_needStart viX10_needStart rfl rfl rfl rfl rfl (by decide) (Nat.le_of_ble_eq_true rfl) (by decide) (by decide) (tX10_needStartF hW hR hX (fun z => q ⟨decide_eq_true z.1, decide_eq_true ⟨z.2.1.1, by omega⟩, decide_eq_true ⟨z.2.2.1, by omega⟩⟩)) (fun E t h => h)
end CO1
