/-! THE CLASS: its tokens -/
/-- a byte as the class reads it -/
def sb (v : Nat) : Int32 := (nI v).toInt8.toInt32
theorem sb_t : ∀ v, v < 256 → (sb v).toInt = if v < 128 then (v : Int) else (v : Int) - 256 := by decide +kernel
theorem sb_lt {v c : Nat} (hv : v < 256) (hc : c < 128) : sb v < nI c ↔ v < c ∨ 128 ≤ v := by
  rw [Int32.lt_iff_toInt_lt, nI_toInt (by omega), sb_t v hv]
  split <;> omega
theorem sb_gt {v c : Nat} (hv : v < 256) (hc : c < 128) : nI c < sb v ↔ c < v ∧ v < 128 := by
  rw [Int32.lt_iff_toInt_lt, nI_toInt (by omega), sb_t v hv]
  split <;> omega
theorem sb_eq {v c : Nat} (hv : v < 256) (hc : c < 128) : sb v = nI c ↔ v = c := by
  rw [← Int32.toInt_inj, nI_toInt (by omega), sb_t v hv]
  split <;> omega
theorem sb_n {v : Nat} (hv : v < 128) : sb v = nI v := (sb_eq (by omega) hv).mpr rfl
def CT (I : Nat → Nat → Int32) (sz : Nat) (tp : Nat → Nat) : Prop := I 1005 1 = nI sz ∧ sz ≤ 700 ∧ ∀ k, k < sz → I 1001 k = sb (tp k) ∧ tp k < 256
def kdC (tp : Nat → Nat) (sz b : Nat) : Nat := if tKd tp sz b = 0 then 1 else if tKd tp sz b = 1 then 2 else if tKd tp sz b = 2 then 3 else if tKd tp sz b = 3 then tp b else 0
def vlC (tp : Nat → Nat) (b m : Nat) : Nat := if m ≤ 4 then tVal tp b m else 10000
def CK (J : Nat → Nat → Int32) (sz : Nat) (tp : Nat → Nat) (b : Nat) : Prop := J 1005 2 = nI (tEnd tp sz b) ∧ J 1005 3 = nI b ∧ J 1005 4 = nI (kdC tp sz b) ∧ (tKd tp sz b = 2 → J 1005 5 = nI (vlC tp b (tEnd tp sz b - b)) ∧ (tEnd tp sz b - b ≤ 4 → tVal tp b (tEnd tp sz b - b) < 10000))
def tkV (b j : Nat) : Bool := decide (b = 1005 ∧ (j = 2 ∨ j = 3 ∨ j = 4 ∨ j = 5))
def eqV (I J : Nat → Nat → Int32) : Prop := ∀ b j : Nat, tkV b j = false → J b j = I b j
theorem eqV_r (I : Nat → Nat → Int32) : eqV I I := fun _ _ _ => rfl
theorem eqV_u {I J : Nat → Nat → Int32} {a k : Nat} {v : Int32} (h : eqV I J) (ha : tkV a k = true) : eqV I (upI J a k v) := fun b j hb => by
  by_cases e : b = a ∧ j = k
  · rw [e.1, e.2, ha] at hb; cases hb
  · have : upI J a k v b j = J b j := by simp [upI, e]
    rw [this]; exact h b j hb
theorem CT.t {I J : Nat → Nat → Int32} {sz : Nat} {tp : Nat → Nat} (h : CT I sz tp) (he : eqV I J) : CT J sz tp :=
  ⟨(he 1005 1 (by decide)).trans h.1, h.2.1, fun k hk => ⟨(he 1001 k (by unfold tkV; simp)).trans (h.2.2 k hk).1, (h.2.2 k hk).2⟩⟩
section CZ1
variable {w : jWD} {l : Launch} {n : Nat} {I : Nat → Nat → Int32} {L : Nat → Nat → Int64} {R : Nat → Nat → Option Nat}

set_option maxHeartbeats 1000000 in
set_option maxRecDepth 20000 in
theorem tX9_signOf (hW : jWok w l) {v : Nat} (hv : v < 256) : jCD w l mX9_signOf 1 [.int (sb v)] (n, shE, I, L, R) (some (.int (nI (if mrkQ v = true then v else 0)))) (n, shE, I, L, R) := by
  refine jCD_of hW (by decide) rfl (Nat.le_of_ble_eq_true rfl) ?_
  by_cases hin : 40 ≤ v ∧ v ≤ 61
  · have hv2 : v = 40 ∨ v = 41 ∨ v = 42 ∨ v = 43 ∨ v = 44 ∨ v = 45 ∨ v = 46 ∨ v = 47 ∨ v = 48 ∨ v = 49 ∨ v = 50 ∨ v = 51 ∨ v = 52 ∨ v = 53 ∨ v = 54 ∨ v = 55 ∨ v = 56 ∨ v = 57 ∨ v = 58 ∨ v = 59 ∨ v = 60 ∨ v = 61 := by omega
    rcases hv2 with rfl | rfl | rfl | rfl | rfl | rfl | rfl | rfl | rfl | rfl | rfl | rfl | rfl | rfl | rfl | rfl | rfl | rfl | rfl | rfl | rfl | rfl
    · refine jx_iload_n dX9_signOf_0 rfl ?_
      refine jx_tsIn 104 dX9_signOf_1 (by decide) (by decide) rfl (by decide) ?_
      refine jx_iload_n dX9_signOf_104 rfl ?_
      refine jx_iret dX9_signOf_105 rfl ?_
      exact ⟨rfl, rfl⟩
    · refine jx_iload_n dX9_signOf_0 rfl ?_
      refine jx_tsIn 104 dX9_signOf_1 (by decide) (by decide) rfl (by decide) ?_
      refine jx_iload_n dX9_signOf_104 rfl ?_
      refine jx_iret dX9_signOf_105 rfl ?_
      exact ⟨rfl, rfl⟩
    · refine jx_iload_n dX9_signOf_0 rfl ?_
      refine jx_tsIn 104 dX9_signOf_1 (by decide) (by decide) rfl (by decide) ?_
      refine jx_iload_n dX9_signOf_104 rfl ?_
      refine jx_iret dX9_signOf_105 rfl ?_
      exact ⟨rfl, rfl⟩
    · refine jx_iload_n dX9_signOf_0 rfl ?_
      refine jx_tsIn 104 dX9_signOf_1 (by decide) (by decide) rfl (by decide) ?_
      refine jx_iload_n dX9_signOf_104 rfl ?_
      refine jx_iret dX9_signOf_105 rfl ?_
      exact ⟨rfl, rfl⟩
    · refine jx_iload_n dX9_signOf_0 rfl ?_
      refine jx_tsIn 106 dX9_signOf_1 (by decide) (by decide) rfl (by decide) ?_
      refine jx_iconst (v := 0) dX9_signOf_106 (by decide) ?_
      refine jx_iret dX9_signOf_107 rfl ?_
      exact ⟨rfl, rfl⟩
    · refine jx_iload_n dX9_signOf_0 rfl ?_
      refine jx_tsIn 104 dX9_signOf_1 (by decide) (by decide) rfl (by decide) ?_
      refine jx_iload_n dX9_signOf_104 rfl ?_
      refine jx_iret dX9_signOf_105 rfl ?_
      exact ⟨rfl, rfl⟩
    · refine jx_iload_n dX9_signOf_0 rfl ?_
      refine jx_tsIn 106 dX9_signOf_1 (by decide) (by decide) rfl (by decide) ?_
      refine jx_iconst (v := 0) dX9_signOf_106 (by decide) ?_
      refine jx_iret dX9_signOf_107 rfl ?_
      exact ⟨rfl, rfl⟩
    · refine jx_iload_n dX9_signOf_0 rfl ?_
      refine jx_tsIn 104 dX9_signOf_1 (by decide) (by decide) rfl (by decide) ?_
      refine jx_iload_n dX9_signOf_104 rfl ?_
      refine jx_iret dX9_signOf_105 rfl ?_
      exact ⟨rfl, rfl⟩
    · refine jx_iload_n dX9_signOf_0 rfl ?_
      refine jx_tsIn 106 dX9_signOf_1 (by decide) (by decide) rfl (by decide) ?_
      refine jx_iconst (v := 0) dX9_signOf_106 (by decide) ?_
      refine jx_iret dX9_signOf_107 rfl ?_
      exact ⟨rfl, rfl⟩
    · refine jx_iload_n dX9_signOf_0 rfl ?_
      refine jx_tsIn 106 dX9_signOf_1 (by decide) (by decide) rfl (by decide) ?_
      refine jx_iconst (v := 0) dX9_signOf_106 (by decide) ?_
      refine jx_iret dX9_signOf_107 rfl ?_
      exact ⟨rfl, rfl⟩
    · refine jx_iload_n dX9_signOf_0 rfl ?_
      refine jx_tsIn 106 dX9_signOf_1 (by decide) (by decide) rfl (by decide) ?_
      refine jx_iconst (v := 0) dX9_signOf_106 (by decide) ?_
      refine jx_iret dX9_signOf_107 rfl ?_
      exact ⟨rfl, rfl⟩
    · refine jx_iload_n dX9_signOf_0 rfl ?_
      refine jx_tsIn 106 dX9_signOf_1 (by decide) (by decide) rfl (by decide) ?_
      refine jx_iconst (v := 0) dX9_signOf_106 (by decide) ?_
      refine jx_iret dX9_signOf_107 rfl ?_
      exact ⟨rfl, rfl⟩
    · refine jx_iload_n dX9_signOf_0 rfl ?_
      refine jx_tsIn 106 dX9_signOf_1 (by decide) (by decide) rfl (by decide) ?_
      refine jx_iconst (v := 0) dX9_signOf_106 (by decide) ?_
      refine jx_iret dX9_signOf_107 rfl ?_
      exact ⟨rfl, rfl⟩
    · refine jx_iload_n dX9_signOf_0 rfl ?_
      refine jx_tsIn 106 dX9_signOf_1 (by decide) (by decide) rfl (by decide) ?_
      refine jx_iconst (v := 0) dX9_signOf_106 (by decide) ?_
      refine jx_iret dX9_signOf_107 rfl ?_
      exact ⟨rfl, rfl⟩
    · refine jx_iload_n dX9_signOf_0 rfl ?_
      refine jx_tsIn 106 dX9_signOf_1 (by decide) (by decide) rfl (by decide) ?_
      refine jx_iconst (v := 0) dX9_signOf_106 (by decide) ?_
      refine jx_iret dX9_signOf_107 rfl ?_
      exact ⟨rfl, rfl⟩
    · refine jx_iload_n dX9_signOf_0 rfl ?_
      refine jx_tsIn 106 dX9_signOf_1 (by decide) (by decide) rfl (by decide) ?_
      refine jx_iconst (v := 0) dX9_signOf_106 (by decide) ?_
      refine jx_iret dX9_signOf_107 rfl ?_
      exact ⟨rfl, rfl⟩
    · refine jx_iload_n dX9_signOf_0 rfl ?_
      refine jx_tsIn 106 dX9_signOf_1 (by decide) (by decide) rfl (by decide) ?_
      refine jx_iconst (v := 0) dX9_signOf_106 (by decide) ?_
      refine jx_iret dX9_signOf_107 rfl ?_
      exact ⟨rfl, rfl⟩
    · refine jx_iload_n dX9_signOf_0 rfl ?_
      refine jx_tsIn 106 dX9_signOf_1 (by decide) (by decide) rfl (by decide) ?_
      refine jx_iconst (v := 0) dX9_signOf_106 (by decide) ?_
      refine jx_iret dX9_signOf_107 rfl ?_
      exact ⟨rfl, rfl⟩
    · refine jx_iload_n dX9_signOf_0 rfl ?_
      refine jx_tsIn 106 dX9_signOf_1 (by decide) (by decide) rfl (by decide) ?_
      refine jx_iconst (v := 0) dX9_signOf_106 (by decide) ?_
      refine jx_iret dX9_signOf_107 rfl ?_
      exact ⟨rfl, rfl⟩
    · refine jx_iload_n dX9_signOf_0 rfl ?_
      refine jx_tsIn 104 dX9_signOf_1 (by decide) (by decide) rfl (by decide) ?_
      refine jx_iload_n dX9_signOf_104 rfl ?_
      refine jx_iret dX9_signOf_105 rfl ?_
      exact ⟨rfl, rfl⟩
    · refine jx_iload_n dX9_signOf_0 rfl ?_
      refine jx_tsIn 104 dX9_signOf_1 (by decide) (by decide) rfl (by decide) ?_
      refine jx_iload_n dX9_signOf_104 rfl ?_
      refine jx_iret dX9_signOf_105 rfl ?_
      exact ⟨rfl, rfl⟩
    · refine jx_iload_n dX9_signOf_0 rfl ?_
      refine jx_tsIn 104 dX9_signOf_1 (by decide) (by decide) rfl (by decide) ?_
      refine jx_iload_n dX9_signOf_104 rfl ?_
      refine jx_iret dX9_signOf_105 rfl ?_
      exact ⟨rfl, rfl⟩
  · have hm : mrkQ v = false := decide_eq_false (by omega)
    rw [hm]
    refine jx_iload_n dX9_signOf_0 rfl ?_
    refine jx_tsOut 106 dX9_signOf_1 ?_ (by decide) ?_
    · rw [sb_t v hv]; split <;> omega
    refine jx_iconst (v := 0) dX9_signOf_106 (by decide) ?_
    refine jx_iret dX9_signOf_107 rfl ?_
    exact ⟨rfl, rfl⟩
set_option maxHeartbeats 1000000 in
set_option maxRecDepth 20000 in
theorem tX9_advance (hW : jWok w l) (hR : RS R) {sz a : Nat} {tp : Nat → Nat} (hK : CT I sz tp) (ha : I 1005 2 = nI a) (has : a ≤ sz) : jRv w l mX9_advance 2 [.ref 1005] (n, shE, I, L, R) (fun t => ∃ J, t = (n, shE, J, L, R) ∧ eqV I J ∧ CK J sz tp (tBeg tp sz a)) := by
  refine jRv_of hW (by decide) rfl (Nat.le_of_ble_eq_true rfl) ?_
  have hz7 := hK.2.1
  obtain ⟨B, hB⟩ : ∃ B, B = tBeg tp sz a := ⟨_, rfl⟩
  rw [← hB]
  obtain ⟨hB1, hB2⟩ := scn_le (p := fun k => blkQ (tp k)) (sz := sz) _ a rfl has
  change a ≤ tBeg tp sz a at hB1
  change tBeg tp sz a ≤ sz at hB2
  rw [← hB] at hB1 hB2
  have key323 : ∀ J, eqV I J → CK J sz tp B → jWP w l mX9_advance 2 0 0 (fun v t => v = none ∧ (fun t => ∃ J, t = (n, shE, J, L, R) ∧ eqV I J ∧ CK J sz tp B) t) (fun _ _ => False) 323 [(0, .ref 1005)] [] (n, shE, J, L, R) := by
    intro J he hc
    refine jx_vret dX9_advance_323 rfl ?_
    exact ⟨rfl, _, rfl, he, hc⟩
  have key112 : B < sz → ltrQ (tp B) = true → ∀ f e J, sz - e = f → e ≤ sz → scn (fun k => ltrQ (tp k)) sz e = tEnd tp sz B → eqV I J → J 1005 2 = nI e → J 1005 3 = nI B → J 1005 4 = 2 → jWP w l mX9_advance 2 0 0 (fun v t => v = none ∧ (fun t => ∃ J, t = (n, shE, J, L, R) ∧ eqV I J ∧ CK J sz tp B) t) (fun _ _ => False) 112 [(0, .ref 1005)] [] (n, shE, J, L, R) := by
    intro hBs hlt f
    have hkd : tKd tp sz B = 1 := by unfold tKd; rw [if_neg (by omega), if_pos hlt]
    induction f with
    | zero =>
      intro e J hf hes hsc he e2 e3 e4
      have hKJ := hK.t he
      have hse := scn_st (p := fun k => ltrQ (tp k)) (sz := sz) (a := e) (fun q => by omega)
      refine jx_aload_n dX9_advance_112 rfl ?_
      refine jx_getIE dX9_advance_113 flX9_25 rfl rfl (e2) ?_
      refine jx_aload_n dX9_advance_116 rfl ?_
      refine jx_getIE dX9_advance_117 flX9_21 rfl rfl (hKJ.1) ?_
      refine jx_icmpN_ge (a := e) (b := sz) 323 dX9_advance_120 (by decide) (by omega) (by omega) (fun h120 => ?_) (fun h120 => ?_)
      · exact jx_ls (by exact ⟨rfl, trivial⟩) (key323 _ he ⟨by rw [e2, ← hsc, hse], e3, by rw [e4]; unfold kdC; rw [hkd]; rfl, fun q => by rw [hkd] at q; cases q⟩)
      · exact absurd h120 (by omega)
    | succ f ih =>
      intro e J hf hes hsc he e2 e3 e4
      have hKJ := hK.t he
      have hv := (hKJ.2.2 e (by omega)).2
      refine jx_aload_n dX9_advance_112 rfl ?_
      refine jx_getIE dX9_advance_113 flX9_25 rfl rfl (e2) ?_
      refine jx_aload_n dX9_advance_116 rfl ?_
      refine jx_getIE dX9_advance_117 flX9_21 rfl rfl (hKJ.1) ?_
      refine jx_icmpN_ge (a := e) (b := sz) 323 dX9_advance_120 (by decide) (by omega) (by omega) (fun h120 => ?_) (fun h120 => ?_)
      · have hse := scn_st (p := fun k => ltrQ (tp k)) (sz := sz) (a := e) (fun q => by have q2 := of_decide_eq_true q.2; omega)
        exact jx_ls (by exact ⟨rfl, trivial⟩) (key323 _ he ⟨by rw [e2, ← hsc, hse], e3, by rw [e4]; unfold kdC; rw [hkd]; rfl, fun q => by rw [hkd] at q; cases q⟩)
      · refine jx_aload_n dX9_advance_123 rfl ?_
        refine jx_getR dX9_advance_124 flX9_9 rfl rfl (hR _ _ _ rfl) ?_
        refine jx_aload_n dX9_advance_127 rfl ?_
        refine jx_getIE dX9_advance_128 flX9_25 rfl rfl (e2) ?_
        refine jx_baldE (e) dX9_advance_131 rfl (rfl) (by omega) (by omega) ((hKJ.2.2 e (by omega)).1) ?_
        refine jx_bipush (v := 97) dX9_advance_132 (by decide) ?_
        refine jx_icmp_lt 323 dX9_advance_134 (by decide) (fun h134 => ?_) (fun h134 => ?_)
        · have c134 := (sb_lt (v := tp e) (c := 97) hv (by decide)).mp h134
          have hse := scn_st (p := fun k => ltrQ (tp k)) (sz := sz) (a := e) (fun q => by have q2 := of_decide_eq_true q.2; omega)
          exact jx_ls (by exact ⟨rfl, trivial⟩) (key323 _ he ⟨by rw [e2, ← hsc, hse], e3, by rw [e4]; unfold kdC; rw [hkd]; rfl, fun q => by rw [hkd] at q; cases q⟩)
        · have c134 := show ¬ _ from fun zz => h134 ((sb_lt (v := tp e) (c := 97) hv (by decide)).mpr zz)
          refine jx_aload_n dX9_advance_137 rfl ?_
          refine jx_getR dX9_advance_138 flX9_9 rfl rfl (hR _ _ _ rfl) ?_
          refine jx_aload_n dX9_advance_141 rfl ?_
          refine jx_getIE dX9_advance_142 flX9_25 rfl rfl (e2) ?_
          refine jx_baldE (e) dX9_advance_145 rfl (rfl) (by omega) (by omega) ((hKJ.2.2 e (by omega)).1) ?_
          refine jx_bipush (v := 122) dX9_advance_146 (by decide) ?_
          refine jx_icmp_gt 323 dX9_advance_148 (by decide) (fun h148 => ?_) (fun h148 => ?_)
          · have c148 := (sb_gt (v := tp e) (c := 122) hv (by decide)).mp h148
            have hse := scn_st (p := fun k => ltrQ (tp k)) (sz := sz) (a := e) (fun q => by have q2 := of_decide_eq_true q.2; omega)
            exact jx_ls (by exact ⟨rfl, trivial⟩) (key323 _ he ⟨by rw [e2, ← hsc, hse], e3, by rw [e4]; unfold kdC; rw [hkd]; rfl, fun q => by rw [hkd] at q; cases q⟩)
          · have c148 := show ¬ _ from fun zz => h148 ((sb_gt (v := tp e) (c := 122) hv (by decide)).mpr zz)
            have hl : ltrQ (tp e) = true := decide_eq_true (by omega)
            refine jx_aload_n dX9_advance_151 rfl ?_
            refine jx_dup dX9_advance_152 rfl ?_
            refine jx_getIE dX9_advance_153 flX9_25 rfl rfl (e2) ?_
            refine jx_iconst (v := 1) dX9_advance_156 (by decide) ?_
            refine jx_iaddE (z := nI (e + 1)) dX9_advance_157 (nI_add e 1) ?_
            refine jx_putI dX9_advance_158 flX9_25 rfl rfl (fun r h => by cases h; rfl) ?_
            refine jx_goto 112 dX9_advance_161 (by decide) ?_
            exact jx_ls (by exact ⟨rfl, trivial⟩) (ih (e + 1) _ (by omega) (by omega) (by rw [← hsc]; exact (scn_go (p := fun k => ltrQ (tp k)) (by omega) hl).symm) (eqV_u he (by decide)) upI_s ((upI_j (by decide)).trans e3) ((upI_j (by decide)).trans e4))
  have key202 : B < sz → ltrQ (tp B) = false → dgtQ (tp B) = true → ∀ f e J, sz - e = f → e ≤ sz → B ≤ e → (e - B ≤ 4 → tVal tp B (e - B) < 10 ^ (e - B)) → scn (fun k => dgtQ (tp k)) sz e = tEnd tp sz B → eqV I J → J 1005 2 = nI e → J 1005 3 = nI B → J 1005 4 = 3 → J 1005 5 = nI (vlC tp B (e - B)) → jWP w l mX9_advance 2 0 0 (fun v t => v = none ∧ (fun t => ∃ J, t = (n, shE, J, L, R) ∧ eqV I J ∧ CK J sz tp B) t) (fun _ _ => False) 202 [(0, .ref 1005)] [] (n, shE, J, L, R) := by
    intro hBs hlt hdg f
    have hkd : tKd tp sz B = 2 := by unfold tKd; rw [if_neg (by omega), if_neg (by rw [hlt]; decide), if_pos hdg]
    induction f with
    | zero =>
      intro e J hf hes hBe hpw hsc he e2 e3 e4 e5
      have hKJ := hK.t he
      have hse := scn_st (p := fun k => dgtQ (tp k)) (sz := sz) (a := e) (fun q => by omega)
      refine jx_aload_n dX9_advance_202 rfl ?_
      refine jx_getIE dX9_advance_203 flX9_25 rfl rfl (e2) ?_
      refine jx_aload_n dX9_advance_206 rfl ?_
      refine jx_getIE dX9_advance_207 flX9_21 rfl rfl (hKJ.1) ?_
      refine jx_icmpN_ge (a := e) (b := sz) 323 dX9_advance_210 (by decide) (by omega) (by omega) (fun h210 => ?_) (fun h210 => ?_)
      · exact jx_ls (by exact ⟨rfl, trivial⟩) (key323 _ he ⟨by rw [e2, ← hsc, hse], e3, by rw [e4]; unfold kdC; rw [hkd]; rfl, fun _ => ⟨by rw [e5, ← hsc, hse], fun q => by
          rw [← hsc, hse] at q ⊢
          have := hpw q
          have := Nat.pow_le_pow_right (n := 10) (by decide) q
          omega⟩⟩)
      · exact absurd h210 (by omega)
    | succ f ih =>
      intro e J hf hes hBe hpw hsc he e2 e3 e4 e5
      have hKJ := hK.t he
      have hv := (hKJ.2.2 e (by omega)).2
      have hs1 : e + 1 - B = (e - B) + 1 := by omega
      have hts : tVal tp B (e + 1 - B) = if 10 * tVal tp B (e - B) + tp e - 48 < 100000 then 10 * tVal tp B (e - B) + tp e - 48 else 100000 := by
        rw [hs1]
        show (if 10 * tVal tp B (e - B) + tp (B + (e - B)) - 48 < 100000 then 10 * tVal tp B (e - B) + tp (B + (e - B)) - 48 else 100000) = _
        rw [show B + (e - B) = e by omega]
      refine jx_aload_n dX9_advance_202 rfl ?_
      refine jx_getIE dX9_advance_203 flX9_25 rfl rfl (e2) ?_
      refine jx_aload_n dX9_advance_206 rfl ?_
      refine jx_getIE dX9_advance_207 flX9_21 rfl rfl (hKJ.1) ?_
      refine jx_icmpN_ge (a := e) (b := sz) 323 dX9_advance_210 (by decide) (by omega) (by omega) (fun h210 => ?_) (fun h210 => ?_)
      · have hse := scn_st (p := fun k => dgtQ (tp k)) (sz := sz) (a := e) (fun q => by have q2 := of_decide_eq_true q.2; omega)
        exact jx_ls (by exact ⟨rfl, trivial⟩) (key323 _ he ⟨by rw [e2, ← hsc, hse], e3, by rw [e4]; unfold kdC; rw [hkd]; rfl, fun _ => ⟨by rw [e5, ← hsc, hse], fun q => by
          rw [← hsc, hse] at q ⊢
          have := hpw q
          have := Nat.pow_le_pow_right (n := 10) (by decide) q
          omega⟩⟩)
      · refine jx_aload_n dX9_advance_213 rfl ?_
        refine jx_getR dX9_advance_214 flX9_9 rfl rfl (hR _ _ _ rfl) ?_
        refine jx_aload_n dX9_advance_217 rfl ?_
        refine jx_getIE dX9_advance_218 flX9_25 rfl rfl (e2) ?_
        refine jx_baldE (e) dX9_advance_221 rfl (rfl) (by omega) (by omega) ((hKJ.2.2 e (by omega)).1) ?_
        refine jx_bipush (v := 48) dX9_advance_222 (by decide) ?_
        refine jx_icmp_lt 323 dX9_advance_224 (by decide) (fun h224 => ?_) (fun h224 => ?_)
        · have c224 := (sb_lt (v := tp e) (c := 48) hv (by decide)).mp h224
          have hse := scn_st (p := fun k => dgtQ (tp k)) (sz := sz) (a := e) (fun q => by have q2 := of_decide_eq_true q.2; omega)
          exact jx_ls (by exact ⟨rfl, trivial⟩) (key323 _ he ⟨by rw [e2, ← hsc, hse], e3, by rw [e4]; unfold kdC; rw [hkd]; rfl, fun _ => ⟨by rw [e5, ← hsc, hse], fun q => by
            rw [← hsc, hse] at q ⊢
            have := hpw q
            have := Nat.pow_le_pow_right (n := 10) (by decide) q
            omega⟩⟩)
        · have c224 := show ¬ _ from fun zz => h224 ((sb_lt (v := tp e) (c := 48) hv (by decide)).mpr zz)
          refine jx_aload_n dX9_advance_227 rfl ?_
          refine jx_getR dX9_advance_228 flX9_9 rfl rfl (hR _ _ _ rfl) ?_
          refine jx_aload_n dX9_advance_231 rfl ?_
          refine jx_getIE dX9_advance_232 flX9_25 rfl rfl (e2) ?_
          refine jx_baldE (e) dX9_advance_235 rfl (rfl) (by omega) (by omega) ((hKJ.2.2 e (by omega)).1) ?_
          refine jx_bipush (v := 57) dX9_advance_236 (by decide) ?_
          refine jx_icmp_gt 323 dX9_advance_238 (by decide) (fun h238 => ?_) (fun h238 => ?_)
          · have c238 := (sb_gt (v := tp e) (c := 57) hv (by decide)).mp h238
            have hse := scn_st (p := fun k => dgtQ (tp k)) (sz := sz) (a := e) (fun q => by have q2 := of_decide_eq_true q.2; omega)
            exact jx_ls (by exact ⟨rfl, trivial⟩) (key323 _ he ⟨by rw [e2, ← hsc, hse], e3, by rw [e4]; unfold kdC; rw [hkd]; rfl, fun _ => ⟨by rw [e5, ← hsc, hse], fun q => by
              rw [← hsc, hse] at q ⊢
              have := hpw q
              have := Nat.pow_le_pow_right (n := 10) (by decide) q
              omega⟩⟩)
          · have c238 := show ¬ _ from fun zz => h238 ((sb_gt (v := tp e) (c := 57) hv (by decide)).mpr zz)
            have hl : dgtQ (tp e) = true := decide_eq_true (by omega)
            refine jx_aload_n dX9_advance_241 rfl ?_
            refine jx_aload_n dX9_advance_242 rfl ?_
            refine jx_getIE dX9_advance_243 flX9_25 rfl rfl (e2) ?_
            refine jx_aload_n dX9_advance_246 rfl ?_
            refine jx_getIE dX9_advance_247 flX9_37 rfl rfl (e3) ?_
            refine jx_isubE (z := nI (e - B)) dX9_advance_250 (pk_sub (a := e) (b := B) (by omega)) ?_
            refine jx_iconst (v := 4) dX9_advance_251 (by decide) ?_
            refine jx_icmpN_ge (a := (e - B)) (b := 4) 278 dX9_advance_252 (by decide) (by omega) (by omega) (fun h252 => ?_) (fun h252 => ?_)
            · have hbig := h252
              refine jx_sipush (v := 10000) dX9_advance_278 (by decide) ?_
              refine jx_putI dX9_advance_281 flX9_43 rfl rfl (fun r h => by cases h; rfl) ?_
              refine jx_aload_n dX9_advance_284 rfl ?_
              refine jx_dup dX9_advance_285 rfl ?_
              refine jx_getIE dX9_advance_286 flX9_25 rfl rfl ((upI_j (by decide)).trans e2) ?_
              refine jx_iconst (v := 1) dX9_advance_289 (by decide) ?_
              refine jx_iaddE (z := nI (e + 1)) dX9_advance_290 (nI_add e 1) ?_
              refine jx_putI dX9_advance_291 flX9_25 rfl rfl (fun r h => by cases h; rfl) ?_
              refine jx_goto 202 dX9_advance_294 (by decide) ?_
              exact jx_ls (by exact ⟨rfl, trivial⟩) (ih (e + 1) _ (by omega) (by omega) (by omega) (fun q => absurd q (by omega)) (by rw [← hsc]; exact (scn_go (p := fun k => dgtQ (tp k)) (by omega) hl).symm) (eqV_u (eqV_u he (by decide)) (by decide)) upI_s ((upI_j (by decide)).trans ((upI_j (by decide)).trans e3)) ((upI_j (by decide)).trans ((upI_j (by decide)).trans e4)) ((upI_j (by decide)).trans (upI_s.trans (by unfold vlC; rw [if_neg (by omega)]; rfl))))
            · have hp := hpw (by omega)
              have hq := Nat.pow_le_pow_right (n := 10) (by decide) (show e - B ≤ 3 by omega)
              refine jx_bipush (v := 10) dX9_advance_255 (by decide) ?_
              refine jx_aload_n dX9_advance_257 rfl ?_
              refine jx_getIE dX9_advance_258 flX9_43 rfl rfl (show J 1005 5 = nI (tVal tp B (e - B)) from by rw [e5]; unfold vlC; rw [if_pos (by omega)]) ?_
              refine jx_imulE (z := nI (10 * (tVal tp B (e - B)))) dX9_advance_261 (pk_mul 10 (tVal tp B (e - B))) ?_
              refine jx_aload_n dX9_advance_262 rfl ?_
              refine jx_getR dX9_advance_263 flX9_9 rfl rfl (hR _ _ _ rfl) ?_
              refine jx_aload_n dX9_advance_266 rfl ?_
              refine jx_getIE dX9_advance_267 flX9_25 rfl rfl (e2) ?_
              refine jx_baldE (e) dX9_advance_270 rfl (rfl) (by omega) (by omega) (((hKJ.2.2 e (by omega)).1).trans (sb_n (by omega))) ?_
              refine jx_iaddE (z := nI ((10 * (tVal tp B (e - B))) + (tp e))) dX9_advance_271 (nI_add (10 * (tVal tp B (e - B))) (tp e)) ?_
              refine jx_bipush (v := 48) dX9_advance_272 (by decide) ?_
              refine jx_isubE (z := nI (((10 * (tVal tp B (e - B))) + (tp e)) - 48)) dX9_advance_274 (pk_sub (a := ((10 * (tVal tp B (e - B))) + (tp e))) (b := 48) (by omega)) ?_
              refine jx_goto 281 dX9_advance_275 (by decide) ?_
              refine jx_putI dX9_advance_281 flX9_43 rfl rfl (fun r h => by cases h; rfl) ?_
              refine jx_aload_n dX9_advance_284 rfl ?_
              refine jx_dup dX9_advance_285 rfl ?_
              refine jx_getIE dX9_advance_286 flX9_25 rfl rfl ((upI_j (by decide)).trans e2) ?_
              refine jx_iconst (v := 1) dX9_advance_289 (by decide) ?_
              refine jx_iaddE (z := nI (e + 1)) dX9_advance_290 (nI_add e 1) ?_
              refine jx_putI dX9_advance_291 flX9_25 rfl rfl (fun r h => by cases h; rfl) ?_
              refine jx_goto 202 dX9_advance_294 (by decide) ?_
              exact jx_ls (by exact ⟨rfl, trivial⟩) (ih (e + 1) _ (by omega) (by omega) (by omega) (fun q => by rw [hts, if_pos (by omega), hs1, Nat.pow_succ]; omega) (by rw [← hsc]; exact (scn_go (p := fun k => dgtQ (tp k)) (by omega) hl).symm) (eqV_u (eqV_u he (by decide)) (by decide)) upI_s ((upI_j (by decide)).trans ((upI_j (by decide)).trans e3)) ((upI_j (by decide)).trans ((upI_j (by decide)).trans e4)) ((upI_j (by decide)).trans (upI_s.trans (by unfold vlC; rw [if_pos (by omega), hts, if_pos (by omega)]))))
  have key60 : ∀ J, eqV I J → J 1005 2 = nI B → J 1005 3 = nI B → jWP w l mX9_advance 2 0 0 (fun v t => v = none ∧ (fun t => ∃ J, t = (n, shE, J, L, R) ∧ eqV I J ∧ CK J sz tp B) t) (fun _ _ => False) 60 [(0, .ref 1005)] [] (n, shE, J, L, R) := by
    intro J he e2 e3
    have hKJ := hK.t he
    by_cases hBs : B < sz
    · have hv := (hKJ.2.2 B hBs).2
      refine jx_aload_n dX9_advance_60 rfl ?_
      refine jx_getIE dX9_advance_61 flX9_25 rfl rfl (e2) ?_
      refine jx_aload_n dX9_advance_64 rfl ?_
      refine jx_getIE dX9_advance_65 flX9_21 rfl rfl (hKJ.1) ?_
      refine jx_icmpN_lt (a := B) (b := sz) 79 dX9_advance_68 (by decide) (by omega) (by omega) (fun h68 => ?_) (fun h68 => ?_)
      · refine jx_aload_n dX9_advance_79 rfl ?_
        refine jx_getR dX9_advance_80 flX9_9 rfl rfl (hR _ _ _ rfl) ?_
        refine jx_aload_n dX9_advance_83 rfl ?_
        refine jx_getIE dX9_advance_84 flX9_25 rfl rfl (e2) ?_
        refine jx_baldE (B) dX9_advance_87 rfl (rfl) (by omega) (by omega) ((hKJ.2.2 B (by omega)).1) ?_
        refine jx_bipush (v := 97) dX9_advance_88 (by decide) ?_
        refine jx_icmp_lt 164 dX9_advance_90 (by decide) (fun h90 => ?_) (fun h90 => ?_)
        · have c90 := (sb_lt (v := tp B) (c := 97) hv (by decide)).mp h90
          have hl : ltrQ (tp B) = false := decide_eq_false (by omega)
          refine jx_aload_n dX9_advance_164 rfl ?_
          refine jx_getR dX9_advance_165 flX9_9 rfl rfl (hR _ _ _ rfl) ?_
          refine jx_aload_n dX9_advance_168 rfl ?_
          refine jx_getIE dX9_advance_169 flX9_25 rfl rfl (e2) ?_
          refine jx_baldE (B) dX9_advance_172 rfl (rfl) (by omega) (by omega) ((hKJ.2.2 B (by omega)).1) ?_
          refine jx_bipush (v := 48) dX9_advance_173 (by decide) ?_
          refine jx_icmp_lt 297 dX9_advance_175 (by decide) (fun h175 => ?_) (fun h175 => ?_)
          · have c175 := (sb_lt (v := tp B) (c := 48) hv (by decide)).mp h175
            have hg : dgtQ (tp B) = false := decide_eq_false (by omega)
            have hen : tEnd tp sz B = B + 1 := by unfold tEnd; rw [if_neg (by omega), if_neg (by rw [hl]; decide), if_neg (by rw [hg]; decide)]
            have hk3 : tKd tp sz B = if mrkQ (tp B) = true then 3 else 4 := by unfold tKd; rw [if_neg (by omega), if_neg (by rw [hl]; decide), if_neg (by rw [hg]; decide)]
            have hkc : kdC tp sz B = if mrkQ (tp B) = true then tp B else 0 := by unfold kdC; rw [hk3]; cases mrkQ (tp B) <;> rfl
            refine jx_aload_n dX9_advance_297 rfl ?_
            refine jx_aload_n dX9_advance_298 rfl ?_
            refine jx_getR dX9_advance_299 flX9_9 rfl rfl (hR _ _ _ rfl) ?_
            refine jx_aload_n dX9_advance_302 rfl ?_
            refine jx_getIE dX9_advance_303 flX9_25 rfl rfl (e2) ?_
            refine jx_baldE (B) dX9_advance_306 rfl (rfl) (by omega) (by omega) ((hKJ.2.2 B (by omega)).1) ?_
            refine jx_Si (as := [.int _]) dX9_advance_307 mlX9_46 okX9_signOf stX9_signOf rfl rfl (by decide) (Nat.le_of_ble_eq_true rfl) (tX9_signOf hW hv) ?_
            refine jx_putI dX9_advance_310 flX9_40 rfl rfl (fun r h => by cases h; rfl) ?_
            refine jx_aload_n dX9_advance_313 rfl ?_
            refine jx_dup dX9_advance_314 rfl ?_
            refine jx_getIE dX9_advance_315 flX9_25 rfl rfl ((upI_j (by decide)).trans e2) ?_
            refine jx_iconst (v := 1) dX9_advance_318 (by decide) ?_
            refine jx_iaddE (z := nI (B + 1)) dX9_advance_319 (nI_add B 1) ?_
            refine jx_putI dX9_advance_320 flX9_25 rfl rfl (fun r h => by cases h; rfl) ?_
            exact jx_ls (by exact ⟨rfl, trivial⟩) (key323 _ (eqV_u (eqV_u he (by decide)) (by decide)) ⟨upI_s.trans (by rw [hen]), (upI_j (by decide)).trans ((upI_j (by decide)).trans e3), (upI_j (by decide)).trans (upI_s.trans (by rw [hkc])), fun q => by rw [hk3] at q; split at q <;> cases q⟩)
          · have c175 := show ¬ _ from fun zz => h175 ((sb_lt (v := tp B) (c := 48) hv (by decide)).mpr zz)
            refine jx_aload_n dX9_advance_178 rfl ?_
            refine jx_getR dX9_advance_179 flX9_9 rfl rfl (hR _ _ _ rfl) ?_
            refine jx_aload_n dX9_advance_182 rfl ?_
            refine jx_getIE dX9_advance_183 flX9_25 rfl rfl (e2) ?_
            refine jx_baldE (B) dX9_advance_186 rfl (rfl) (by omega) (by omega) ((hKJ.2.2 B (by omega)).1) ?_
            refine jx_bipush (v := 57) dX9_advance_187 (by decide) ?_
            refine jx_icmp_gt 297 dX9_advance_189 (by decide) (fun h189 => ?_) (fun h189 => ?_)
            · have c189 := (sb_gt (v := tp B) (c := 57) hv (by decide)).mp h189
              have hg : dgtQ (tp B) = false := decide_eq_false (by omega)
              have hen : tEnd tp sz B = B + 1 := by unfold tEnd; rw [if_neg (by omega), if_neg (by rw [hl]; decide), if_neg (by rw [hg]; decide)]
              have hk3 : tKd tp sz B = if mrkQ (tp B) = true then 3 else 4 := by unfold tKd; rw [if_neg (by omega), if_neg (by rw [hl]; decide), if_neg (by rw [hg]; decide)]
              have hkc : kdC tp sz B = if mrkQ (tp B) = true then tp B else 0 := by unfold kdC; rw [hk3]; cases mrkQ (tp B) <;> rfl
              refine jx_aload_n dX9_advance_297 rfl ?_
              refine jx_aload_n dX9_advance_298 rfl ?_
              refine jx_getR dX9_advance_299 flX9_9 rfl rfl (hR _ _ _ rfl) ?_
              refine jx_aload_n dX9_advance_302 rfl ?_
              refine jx_getIE dX9_advance_303 flX9_25 rfl rfl (e2) ?_
              refine jx_baldE (B) dX9_advance_306 rfl (rfl) (by omega) (by omega) ((hKJ.2.2 B (by omega)).1) ?_
              refine jx_Si (as := [.int _]) dX9_advance_307 mlX9_46 okX9_signOf stX9_signOf rfl rfl (by decide) (Nat.le_of_ble_eq_true rfl) (tX9_signOf hW hv) ?_
              refine jx_putI dX9_advance_310 flX9_40 rfl rfl (fun r h => by cases h; rfl) ?_
              refine jx_aload_n dX9_advance_313 rfl ?_
              refine jx_dup dX9_advance_314 rfl ?_
              refine jx_getIE dX9_advance_315 flX9_25 rfl rfl ((upI_j (by decide)).trans e2) ?_
              refine jx_iconst (v := 1) dX9_advance_318 (by decide) ?_
              refine jx_iaddE (z := nI (B + 1)) dX9_advance_319 (nI_add B 1) ?_
              refine jx_putI dX9_advance_320 flX9_25 rfl rfl (fun r h => by cases h; rfl) ?_
              exact jx_ls (by exact ⟨rfl, trivial⟩) (key323 _ (eqV_u (eqV_u he (by decide)) (by decide)) ⟨upI_s.trans (by rw [hen]), (upI_j (by decide)).trans ((upI_j (by decide)).trans e3), (upI_j (by decide)).trans (upI_s.trans (by rw [hkc])), fun q => by rw [hk3] at q; split at q <;> cases q⟩)
            · have c189 := show ¬ _ from fun zz => h189 ((sb_gt (v := tp B) (c := 57) hv (by decide)).mpr zz)
              have hg : dgtQ (tp B) = true := decide_eq_true (by omega)
              refine jx_aload_n dX9_advance_192 rfl ?_
              refine jx_iconst (v := 3) dX9_advance_193 (by decide) ?_
              refine jx_putI dX9_advance_194 flX9_40 rfl rfl (fun r h => by cases h; rfl) ?_
              refine jx_aload_n dX9_advance_197 rfl ?_
              refine jx_iconst (v := 0) dX9_advance_198 (by decide) ?_
              refine jx_putI dX9_advance_199 flX9_43 rfl rfl (fun r h => by cases h; rfl) ?_
              exact jx_ls (by exact ⟨rfl, trivial⟩) (key202 hBs hl hg _ B _ rfl hB2 (Nat.le_refl _) (fun _ => by rw [Nat.sub_self]; exact Nat.one_pos) (by unfold tEnd; rw [if_neg (by omega), if_neg (by rw [hl]; decide), if_pos hg]) (eqV_u (eqV_u he (by decide)) (by decide)) ((upI_j (by decide)).trans ((upI_j (by decide)).trans e2)) ((upI_j (by decide)).trans ((upI_j (by decide)).trans e3)) ((upI_j (by decide)).trans upI_s) (upI_s.trans (by rw [Nat.sub_self]; rfl)))
        · have c90 := show ¬ _ from fun zz => h90 ((sb_lt (v := tp B) (c := 97) hv (by decide)).mpr zz)
          refine jx_aload_n dX9_advance_93 rfl ?_
          refine jx_getR dX9_advance_94 flX9_9 rfl rfl (hR _ _ _ rfl) ?_
          refine jx_aload_n dX9_advance_97 rfl ?_
          refine jx_getIE dX9_advance_98 flX9_25 rfl rfl (e2) ?_
          refine jx_baldE (B) dX9_advance_101 rfl (rfl) (by omega) (by omega) ((hKJ.2.2 B (by omega)).1) ?_
          refine jx_bipush (v := 122) dX9_advance_102 (by decide) ?_
          refine jx_icmp_gt 164 dX9_advance_104 (by decide) (fun h104 => ?_) (fun h104 => ?_)
          · have c104 := (sb_gt (v := tp B) (c := 122) hv (by decide)).mp h104
            have hl : ltrQ (tp B) = false := decide_eq_false (by omega)
            refine jx_aload_n dX9_advance_164 rfl ?_
            refine jx_getR dX9_advance_165 flX9_9 rfl rfl (hR _ _ _ rfl) ?_
            refine jx_aload_n dX9_advance_168 rfl ?_
            refine jx_getIE dX9_advance_169 flX9_25 rfl rfl (e2) ?_
            refine jx_baldE (B) dX9_advance_172 rfl (rfl) (by omega) (by omega) ((hKJ.2.2 B (by omega)).1) ?_
            refine jx_bipush (v := 48) dX9_advance_173 (by decide) ?_
            refine jx_icmp_lt 297 dX9_advance_175 (by decide) (fun h175 => ?_) (fun h175 => ?_)
            · have c175 := (sb_lt (v := tp B) (c := 48) hv (by decide)).mp h175
              have hg : dgtQ (tp B) = false := decide_eq_false (by omega)
              have hen : tEnd tp sz B = B + 1 := by unfold tEnd; rw [if_neg (by omega), if_neg (by rw [hl]; decide), if_neg (by rw [hg]; decide)]
              have hk3 : tKd tp sz B = if mrkQ (tp B) = true then 3 else 4 := by unfold tKd; rw [if_neg (by omega), if_neg (by rw [hl]; decide), if_neg (by rw [hg]; decide)]
              have hkc : kdC tp sz B = if mrkQ (tp B) = true then tp B else 0 := by unfold kdC; rw [hk3]; cases mrkQ (tp B) <;> rfl
              refine jx_aload_n dX9_advance_297 rfl ?_
              refine jx_aload_n dX9_advance_298 rfl ?_
              refine jx_getR dX9_advance_299 flX9_9 rfl rfl (hR _ _ _ rfl) ?_
              refine jx_aload_n dX9_advance_302 rfl ?_
              refine jx_getIE dX9_advance_303 flX9_25 rfl rfl (e2) ?_
              refine jx_baldE (B) dX9_advance_306 rfl (rfl) (by omega) (by omega) ((hKJ.2.2 B (by omega)).1) ?_
              refine jx_Si (as := [.int _]) dX9_advance_307 mlX9_46 okX9_signOf stX9_signOf rfl rfl (by decide) (Nat.le_of_ble_eq_true rfl) (tX9_signOf hW hv) ?_
              refine jx_putI dX9_advance_310 flX9_40 rfl rfl (fun r h => by cases h; rfl) ?_
              refine jx_aload_n dX9_advance_313 rfl ?_
              refine jx_dup dX9_advance_314 rfl ?_
              refine jx_getIE dX9_advance_315 flX9_25 rfl rfl ((upI_j (by decide)).trans e2) ?_
              refine jx_iconst (v := 1) dX9_advance_318 (by decide) ?_
              refine jx_iaddE (z := nI (B + 1)) dX9_advance_319 (nI_add B 1) ?_
              refine jx_putI dX9_advance_320 flX9_25 rfl rfl (fun r h => by cases h; rfl) ?_
              exact jx_ls (by exact ⟨rfl, trivial⟩) (key323 _ (eqV_u (eqV_u he (by decide)) (by decide)) ⟨upI_s.trans (by rw [hen]), (upI_j (by decide)).trans ((upI_j (by decide)).trans e3), (upI_j (by decide)).trans (upI_s.trans (by rw [hkc])), fun q => by rw [hk3] at q; split at q <;> cases q⟩)
            · have c175 := show ¬ _ from fun zz => h175 ((sb_lt (v := tp B) (c := 48) hv (by decide)).mpr zz)
              refine jx_aload_n dX9_advance_178 rfl ?_
              refine jx_getR dX9_advance_179 flX9_9 rfl rfl (hR _ _ _ rfl) ?_
              refine jx_aload_n dX9_advance_182 rfl ?_
              refine jx_getIE dX9_advance_183 flX9_25 rfl rfl (e2) ?_
              refine jx_baldE (B) dX9_advance_186 rfl (rfl) (by omega) (by omega) ((hKJ.2.2 B (by omega)).1) ?_
              refine jx_bipush (v := 57) dX9_advance_187 (by decide) ?_
              refine jx_icmp_gt 297 dX9_advance_189 (by decide) (fun h189 => ?_) (fun h189 => ?_)
              · have c189 := (sb_gt (v := tp B) (c := 57) hv (by decide)).mp h189
                have hg : dgtQ (tp B) = false := decide_eq_false (by omega)
                have hen : tEnd tp sz B = B + 1 := by unfold tEnd; rw [if_neg (by omega), if_neg (by rw [hl]; decide), if_neg (by rw [hg]; decide)]
                have hk3 : tKd tp sz B = if mrkQ (tp B) = true then 3 else 4 := by unfold tKd; rw [if_neg (by omega), if_neg (by rw [hl]; decide), if_neg (by rw [hg]; decide)]
                have hkc : kdC tp sz B = if mrkQ (tp B) = true then tp B else 0 := by unfold kdC; rw [hk3]; cases mrkQ (tp B) <;> rfl
                refine jx_aload_n dX9_advance_297 rfl ?_
                refine jx_aload_n dX9_advance_298 rfl ?_
                refine jx_getR dX9_advance_299 flX9_9 rfl rfl (hR _ _ _ rfl) ?_
                refine jx_aload_n dX9_advance_302 rfl ?_
                refine jx_getIE dX9_advance_303 flX9_25 rfl rfl (e2) ?_
                refine jx_baldE (B) dX9_advance_306 rfl (rfl) (by omega) (by omega) ((hKJ.2.2 B (by omega)).1) ?_
                refine jx_Si (as := [.int _]) dX9_advance_307 mlX9_46 okX9_signOf stX9_signOf rfl rfl (by decide) (Nat.le_of_ble_eq_true rfl) (tX9_signOf hW hv) ?_
                refine jx_putI dX9_advance_310 flX9_40 rfl rfl (fun r h => by cases h; rfl) ?_
                refine jx_aload_n dX9_advance_313 rfl ?_
                refine jx_dup dX9_advance_314 rfl ?_
                refine jx_getIE dX9_advance_315 flX9_25 rfl rfl ((upI_j (by decide)).trans e2) ?_
                refine jx_iconst (v := 1) dX9_advance_318 (by decide) ?_
                refine jx_iaddE (z := nI (B + 1)) dX9_advance_319 (nI_add B 1) ?_
                refine jx_putI dX9_advance_320 flX9_25 rfl rfl (fun r h => by cases h; rfl) ?_
                exact jx_ls (by exact ⟨rfl, trivial⟩) (key323 _ (eqV_u (eqV_u he (by decide)) (by decide)) ⟨upI_s.trans (by rw [hen]), (upI_j (by decide)).trans ((upI_j (by decide)).trans e3), (upI_j (by decide)).trans (upI_s.trans (by rw [hkc])), fun q => by rw [hk3] at q; split at q <;> cases q⟩)
              · have c189 := show ¬ _ from fun zz => h189 ((sb_gt (v := tp B) (c := 57) hv (by decide)).mpr zz)
                have hg : dgtQ (tp B) = true := decide_eq_true (by omega)
                refine jx_aload_n dX9_advance_192 rfl ?_
                refine jx_iconst (v := 3) dX9_advance_193 (by decide) ?_
                refine jx_putI dX9_advance_194 flX9_40 rfl rfl (fun r h => by cases h; rfl) ?_
                refine jx_aload_n dX9_advance_197 rfl ?_
                refine jx_iconst (v := 0) dX9_advance_198 (by decide) ?_
                refine jx_putI dX9_advance_199 flX9_43 rfl rfl (fun r h => by cases h; rfl) ?_
                exact jx_ls (by exact ⟨rfl, trivial⟩) (key202 hBs hl hg _ B _ rfl hB2 (Nat.le_refl _) (fun _ => by rw [Nat.sub_self]; exact Nat.one_pos) (by unfold tEnd; rw [if_neg (by omega), if_neg (by rw [hl]; decide), if_pos hg]) (eqV_u (eqV_u he (by decide)) (by decide)) ((upI_j (by decide)).trans ((upI_j (by decide)).trans e2)) ((upI_j (by decide)).trans ((upI_j (by decide)).trans e3)) ((upI_j (by decide)).trans upI_s) (upI_s.trans (by rw [Nat.sub_self]; rfl)))
          · have c104 := show ¬ _ from fun zz => h104 ((sb_gt (v := tp B) (c := 122) hv (by decide)).mpr zz)
            have hl : ltrQ (tp B) = true := decide_eq_true (by omega)
            refine jx_aload_n dX9_advance_107 rfl ?_
            refine jx_iconst (v := 2) dX9_advance_108 (by decide) ?_
            refine jx_putI dX9_advance_109 flX9_40 rfl rfl (fun r h => by cases h; rfl) ?_
            exact jx_ls (by exact ⟨rfl, trivial⟩) (key112 hBs hl _ B _ rfl hB2 (by unfold tEnd; rw [if_neg (by omega), if_pos hl]) (eqV_u he (by decide)) ((upI_j (by decide)).trans e2) ((upI_j (by decide)).trans e3) upI_s)
      · exact absurd hBs (by omega)
    · have hkd : tKd tp sz B = 0 := by unfold tKd; rw [if_pos (by omega)]
      have hen : tEnd tp sz B = B := by unfold tEnd; rw [if_pos (by omega)]
      refine jx_aload_n dX9_advance_60 rfl ?_
      refine jx_getIE dX9_advance_61 flX9_25 rfl rfl (e2) ?_
      refine jx_aload_n dX9_advance_64 rfl ?_
      refine jx_getIE dX9_advance_65 flX9_21 rfl rfl (hKJ.1) ?_
      refine jx_icmpN_lt (a := B) (b := sz) 79 dX9_advance_68 (by decide) (by omega) (by omega) (fun h68 => ?_) (fun h68 => ?_)
      · exact absurd h68 (by omega)
      · refine jx_aload_n dX9_advance_71 rfl ?_
        refine jx_iconst (v := 1) dX9_advance_72 (by decide) ?_
        refine jx_putI dX9_advance_73 flX9_40 rfl rfl (fun r h => by cases h; rfl) ?_
        refine jx_goto 323 dX9_advance_76 (by decide) ?_
        exact jx_ls (by exact ⟨rfl, trivial⟩) (key323 _ (eqV_u he (by decide)) ⟨(upI_j (by decide)).trans (by rw [e2, hen]), (upI_j (by decide)).trans e3, by rw [upI_s]; unfold kdC; rw [hkd]; rfl, fun q => by rw [hkd] at q; cases q⟩)
  have key0 : ∀ f e J, sz - e = f → e ≤ sz → tBeg tp sz e = B → eqV I J → J 1005 2 = nI e → jWP w l mX9_advance 2 0 0 (fun v t => v = none ∧ (fun t => ∃ J, t = (n, shE, J, L, R) ∧ eqV I J ∧ CK J sz tp B) t) (fun _ _ => False) 0 [(0, .ref 1005)] [] (n, shE, J, L, R) := by
    intro f
    induction f with
    | zero =>
      intro e J hf hes hsc he e2
      have hKJ := hK.t he
      have hse : e = B := by rw [← hsc]; exact (scn_st (p := fun k => blkQ (tp k)) (sz := sz) (a := e) (fun q => by omega)).symm
      refine jx_aload_n dX9_advance_0 rfl ?_
      refine jx_getIE dX9_advance_1 flX9_25 rfl rfl (e2) ?_
      refine jx_aload_n dX9_advance_4 rfl ?_
      refine jx_getIE dX9_advance_5 flX9_21 rfl rfl (hKJ.1) ?_
      refine jx_icmpN_ge (a := e) (b := sz) 52 dX9_advance_8 (by decide) (by omega) (by omega) (fun h8 => ?_) (fun h8 => ?_)
      · refine jx_aload_n dX9_advance_52 rfl ?_
        refine jx_aload_n dX9_advance_53 rfl ?_
        refine jx_getIE dX9_advance_54 flX9_25 rfl rfl (e2) ?_
        refine jx_putI dX9_advance_57 flX9_37 rfl rfl (fun r h => by cases h; rfl) ?_
        exact jx_ls (by exact ⟨rfl, trivial⟩) (key60 _ (eqV_u he (by decide)) ((upI_j (by decide)).trans (by rw [e2, hse])) (upI_s.trans (by rw [hse])))
      · exact absurd h8 (by omega)
    | succ f ih =>
      intro e J hf hes hsc he e2
      have hKJ := hK.t he
      have hv := (hKJ.2.2 e (by omega)).2
      refine jx_aload_n dX9_advance_0 rfl ?_
      refine jx_getIE dX9_advance_1 flX9_25 rfl rfl (e2) ?_
      refine jx_aload_n dX9_advance_4 rfl ?_
      refine jx_getIE dX9_advance_5 flX9_21 rfl rfl (hKJ.1) ?_
      refine jx_icmpN_ge (a := e) (b := sz) 52 dX9_advance_8 (by decide) (by omega) (by omega) (fun h8 => ?_) (fun h8 => ?_)
      · refine jx_aload_n dX9_advance_52 rfl ?_
        refine jx_aload_n dX9_advance_53 rfl ?_
        refine jx_getIE dX9_advance_54 flX9_25 rfl rfl (e2) ?_
        refine jx_putI dX9_advance_57 flX9_37 rfl rfl (fun r h => by cases h; rfl) ?_
        have hse : e = B := by rw [← hsc]; exact (scn_st (p := fun k => blkQ (tp k)) (sz := sz) (a := e) (fun q => by have := of_decide_eq_true q.2; omega)).symm
        exact jx_ls (by exact ⟨rfl, trivial⟩) (key60 _ (eqV_u he (by decide)) ((upI_j (by decide)).trans (by rw [e2, hse])) (upI_s.trans (by rw [hse])))
      · refine jx_aload_n dX9_advance_11 rfl ?_
        refine jx_getR dX9_advance_12 flX9_9 rfl rfl (hR _ _ _ rfl) ?_
        refine jx_aload_n dX9_advance_15 rfl ?_
        refine jx_getIE dX9_advance_16 flX9_25 rfl rfl (e2) ?_
        refine jx_baldE (e) dX9_advance_19 rfl (rfl) (by omega) (by omega) ((hKJ.2.2 e (by omega)).1) ?_
        refine jx_bipush (v := 32) dX9_advance_20 (by decide) ?_
        refine jx_icmp_eq 39 dX9_advance_22 (by decide) (fun h22 => ?_) (fun h22 => ?_)
        · have c22 := (sb_eq (v := tp e) (c := 32) hv (by decide)).mp h22
          have hbl : blkQ (tp e) = true := decide_eq_true (by omega)
          refine jx_aload_n dX9_advance_39 rfl ?_
          refine jx_dup dX9_advance_40 rfl ?_
          refine jx_getIE dX9_advance_41 flX9_25 rfl rfl (e2) ?_
          refine jx_iconst (v := 1) dX9_advance_44 (by decide) ?_
          refine jx_iaddE (z := nI (e + 1)) dX9_advance_45 (nI_add e 1) ?_
          refine jx_putI dX9_advance_46 flX9_25 rfl rfl (fun r h => by cases h; rfl) ?_
          refine jx_goto 0 dX9_advance_49 (by decide) ?_
          exact jx_ls (by exact ⟨rfl, trivial⟩) (ih (e + 1) _ (by omega) (by omega) (by rw [← hsc]; exact (scn_go (p := fun k => blkQ (tp k)) (by omega) hbl).symm) (eqV_u he (by decide)) upI_s)
        · have c22 := show ¬ _ from fun zz => h22 ((sb_eq (v := tp e) (c := 32) hv (by decide)).mpr zz)
          refine jx_aload_n dX9_advance_25 rfl ?_
          refine jx_getR dX9_advance_26 flX9_9 rfl rfl (hR _ _ _ rfl) ?_
          refine jx_aload_n dX9_advance_29 rfl ?_
          refine jx_getIE dX9_advance_30 flX9_25 rfl rfl (e2) ?_
          refine jx_baldE (e) dX9_advance_33 rfl (rfl) (by omega) (by omega) ((hKJ.2.2 e (by omega)).1) ?_
          refine jx_bipush (v := 10) dX9_advance_34 (by decide) ?_
          refine jx_icmp_ne 52 dX9_advance_36 (by decide) (fun h36 => ?_) (fun h36 => ?_)
          · have c36 := show ¬ _ from fun zz => h36 ((sb_eq (v := tp e) (c := 10) hv (by decide)).mpr zz)
            refine jx_aload_n dX9_advance_52 rfl ?_
            refine jx_aload_n dX9_advance_53 rfl ?_
            refine jx_getIE dX9_advance_54 flX9_25 rfl rfl (e2) ?_
            refine jx_putI dX9_advance_57 flX9_37 rfl rfl (fun r h => by cases h; rfl) ?_
            have hse : e = B := by rw [← hsc]; exact (scn_st (p := fun k => blkQ (tp k)) (sz := sz) (a := e) (fun q => by have := of_decide_eq_true q.2; omega)).symm
            exact jx_ls (by exact ⟨rfl, trivial⟩) (key60 _ (eqV_u he (by decide)) ((upI_j (by decide)).trans (by rw [e2, hse])) (upI_s.trans (by rw [hse])))
          · have c36 := (sb_eq (v := tp e) (c := 10) hv (by decide)).mp h36
            have hbl : blkQ (tp e) = true := decide_eq_true (by omega)
            refine jx_aload_n dX9_advance_39 rfl ?_
            refine jx_dup dX9_advance_40 rfl ?_
            refine jx_getIE dX9_advance_41 flX9_25 rfl rfl (e2) ?_
            refine jx_iconst (v := 1) dX9_advance_44 (by decide) ?_
            refine jx_iaddE (z := nI (e + 1)) dX9_advance_45 (nI_add e 1) ?_
            refine jx_putI dX9_advance_46 flX9_25 rfl rfl (fun r h => by cases h; rfl) ?_
            refine jx_goto 0 dX9_advance_49 (by decide) ?_
            exact jx_ls (by exact ⟨rfl, trivial⟩) (ih (e + 1) _ (by omega) (by omega) (by rw [← hsc]; exact (scn_go (p := fun k => blkQ (tp k)) (by omega) hbl).symm) (eqV_u he (by decide)) upI_s)
  exact key0 _ a I rfl has hB.symm (eqV_r I) ha
end CZ1
