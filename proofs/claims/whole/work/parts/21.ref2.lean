/-! THE REFERENCE: rows that are copied -/
section RB
variable {w : jWD} {l : Launch} {n : Nat} {sh : Nat → Nat × Nat} {I : Nat → Nat → Int32} {L : Nat → Nat → Int64} {R : Nat → Nat → Option Nat}

set_option maxHeartbeats 1000000 in
set_option maxRecDepth 20000 in
theorem tX11_takeHalf (hW : jWok w l) {a h : Nat} (hs : sh a = (1, 2 * h)) (hh : h < 30000) : jCD w l mX11_takeHalf 1 [.ref a] (n, sh, I, L, R) none (n, sh, fl I a (fun j => I a (h + j)) h, L, R) := by
  refine jCD_of hW (by decide) rfl (Nat.le_of_ble_eq_true rfl) ?_
  have e2 : (Int32.ofNat (2 * h)) / 2 = nI h := by
    have := pk_div (a := 2 * h) (d := 2) (by omega) (by omega) (by omega)
    rw [show 2 * h / 2 = h by omega] at this
    exact this
  have key : ∀ k, k ≤ h → jWP w l mX11_takeHalf 1 0 0 (fun r t => r = none ∧ t = (n, sh, fl I a (fun j => I a (h + j)) h, L, R)) (fun _ _ => False) 2 [(0, .ref a), (1, .int (nI k))] [] (n, sh, fl I a (fun j => I a (h + j)) k, L, R) := by
    refine jdown h (fun k hk ih => ?_)
    refine jx_iload_n dX11_takeHalf_2 rfl ?_
    refine jx_aload_n dX11_takeHalf_3 rfl ?_
    refine jx_alen dX11_takeHalf_4 hs (by decide) (by decide) ?_
    refine jx_iconst (v := 2) dX11_takeHalf_5 (by decide) ?_
    refine jx_idiv dX11_takeHalf_6 ?_ ?_
    · decide
    rw [e2]
    refine jx_icmp_ge 27 dX11_takeHalf_7 (by decide) (fun h7 => ?_) (fun h7 => ?_)
    · refine jx_vret dX11_takeHalf_27 rfl ?_
      have : k = h := by have := nge_of (by omega) (by omega) h7; omega
      subst this
      exact ⟨rfl, rfl⟩
    · have hlt : k < h := nlt_of (by omega) (by omega) h7
      refine jx_aload_n dX11_takeHalf_10 rfl ?_
      refine jx_iload_n dX11_takeHalf_11 rfl ?_
      refine jx_aload_n dX11_takeHalf_12 rfl ?_
      refine jx_aload_n dX11_takeHalf_13 rfl ?_
      refine jx_alen dX11_takeHalf_14 hs (by decide) (by decide) ?_
      refine jx_iconst (v := 2) dX11_takeHalf_15 (by decide) ?_
      refine jx_idiv dX11_takeHalf_16 ?_ ?_
      · decide
      rw [e2]
      refine jx_iload_n dX11_takeHalf_17 rfl ?_
      refine jx_iadd dX11_takeHalf_18 ?_
      rw [nI_add]
      refine jx_ialdN (h + k) dX11_takeHalf_19 hs (rfl) (by omega) (by omega) ?_
      refine jx_iastN (k) dX11_takeHalf_20 hs (rfl) (by omega) (by omega) ?_
      refine jx_iinc dX11_takeHalf_21 rfl (v := nI (k + 1)) (nI_1 k) (by decide) ?_
      refine jx_goto 2 dX11_takeHalf_24 (by decide) ?_
      rw [show fl I a (fun j => I a (h + j)) k a (h + k) = I a (h + k) from fl_out (by omega), fl_s I a (fun j => I a (h + j)) k]
      exact jx_ls (by exact ⟨rfl, rfl, trivial⟩) (ih hlt)
  have key := key 0 (by omega)
  refine jx_iconst (v := 0) dX11_takeHalf_0 (by decide) ?_
  refine jx_istore_n dX11_takeHalf_1 rfl (by decide) ?_
  refine jx_ls (ls' := [(0, .ref a), (1, .int (nI 0))]) ⟨rfl, rfl, trivial⟩ ?_
  rw [fl_0] at key
  exact key
set_option maxHeartbeats 1000000 in
set_option maxRecDepth 20000 in
theorem tX11_be (hW : jWok w l) {a b h : Nat} (hs : sh a = (1, h)) (hs2 : sh b = (1, h)) (hh : h < 30000) (hab : a ≠ b) : jCD w l mX11_be 1 [.ref a, .ref b] (n, sh, I, L, R) none (n, sh, fl I a (fun j => I b j) h, L, R) := by
  refine jCD_of hW (by decide) rfl (Nat.le_of_ble_eq_true rfl) ?_
  have key : ∀ k, k ≤ h → jWP w l mX11_be 1 0 0 (fun r t => r = none ∧ t = (n, sh, fl I a (fun j => I b j) h, L, R)) (fun _ _ => False) 2 [(0, .ref a), (1, .ref b), (2, .int (nI k))] [] (n, sh, fl I a (fun j => I b j) k, L, R) := by
    refine jdown h (fun k hk ih => ?_)
    refine jx_iload_n dX11_be_2 rfl ?_
    refine jx_aload_n dX11_be_3 rfl ?_
    refine jx_alen dX11_be_4 hs (by decide) (by decide) ?_
    refine jx_icmp_ge 20 dX11_be_5 (by decide) (fun h5 => ?_) (fun h5 => ?_)
    · refine jx_vret dX11_be_20 rfl ?_
      have : k = h := by have := nge_of (by omega) (by omega) h5; omega
      subst this
      exact ⟨rfl, rfl⟩
    · have hlt : k < h := nlt_of (by omega) (by omega) h5
      refine jx_aload_n dX11_be_8 rfl ?_
      refine jx_iload_n dX11_be_9 rfl ?_
      refine jx_aload_n dX11_be_10 rfl ?_
      refine jx_iload_n dX11_be_11 rfl ?_
      refine jx_ialdN (k) dX11_be_12 hs2 (rfl) (by omega) (by omega) ?_
      refine jx_iastN (k) dX11_be_13 hs (rfl) (by omega) (by omega) ?_
      refine jx_iinc dX11_be_14 rfl (v := nI (k + 1)) (nI_1 k) (by decide) ?_
      refine jx_goto 2 dX11_be_17 (by decide) ?_
      rw [show fl I a (fun j => I b j) k b k = I b k from fl_ne (Ne.symm hab), fl_s I a (fun j => I b j) k]
      exact jx_ls (by exact ⟨rfl, rfl, rfl, trivial⟩) (ih hlt)
  have key := key 0 (by omega)
  refine jx_iconst (v := 0) dX11_be_0 (by decide) ?_
  refine jx_istore_n dX11_be_1 rfl (by decide) ?_
  rw [fl_0] at key
  exact jx_ls (by exact ⟨rfl, rfl, rfl, trivial⟩) key
set_option maxHeartbeats 1000000 in
set_option maxRecDepth 20000 in
theorem tX11_beAs (hW : jWok w l) {a b h : Nat} (hs : sh a = (3, h)) (hs2 : sh b = (3, h)) (hh : h < 30000) (hab : a ≠ b) (hb : ∀ j, j < h → I b j &&& 1 = I b j) : jCD w l mX11_beAs 1 [.ref a, .ref b] (n, sh, I, L, R) none (n, sh, fl I a (fun j => I b j) h, L, R) := by
  refine jCD_of hW (by decide) rfl (Nat.le_of_ble_eq_true rfl) ?_
  have key : ∀ k, k ≤ h → jWP w l mX11_beAs 1 0 0 (fun r t => r = none ∧ t = (n, sh, fl I a (fun j => I b j) h, L, R)) (fun _ _ => False) 2 [(0, .ref a), (1, .ref b), (2, .int (nI k))] [] (n, sh, fl I a (fun j => I b j) k, L, R) := by
    refine jdown h (fun k hk ih => ?_)
    refine jx_iload_n dX11_beAs_2 rfl ?_
    refine jx_aload_n dX11_beAs_3 rfl ?_
    refine jx_alen dX11_beAs_4 hs (by decide) (by decide) ?_
    refine jx_icmp_ge 20 dX11_beAs_5 (by decide) (fun h5 => ?_) (fun h5 => ?_)
    · refine jx_vret dX11_beAs_20 rfl ?_
      have : k = h := by have := nge_of (by omega) (by omega) h5; omega
      subst this
      exact ⟨rfl, rfl⟩
    · have hlt : k < h := nlt_of (by omega) (by omega) h5
      refine jx_aload_n dX11_beAs_8 rfl ?_
      refine jx_iload_n dX11_beAs_9 rfl ?_
      refine jx_aload_n dX11_beAs_10 rfl ?_
      refine jx_iload_n dX11_beAs_11 rfl ?_
      refine jx_zaldN (k) dX11_beAs_12 hs2 (rfl) (by omega) (by omega) ?_
      refine jx_zastN (k) dX11_beAs_13 hs (rfl) (by omega) (by omega) ?_
      refine jx_iinc dX11_beAs_14 rfl (v := nI (k + 1)) (nI_1 k) (by decide) ?_
      refine jx_goto 2 dX11_beAs_17 (by decide) ?_
      rw [show fl I a (fun j => I b j) k b k = I b k from fl_ne (Ne.symm hab), hb k hlt, fl_s I a (fun j => I b j) k]
      exact jx_ls (by exact ⟨rfl, rfl, rfl, trivial⟩) (ih hlt)
  have key := key 0 (by omega)
  refine jx_iconst (v := 0) dX11_beAs_0 (by decide) ?_
  refine jx_istore_n dX11_beAs_1 rfl (by decide) ?_
  rw [fl_0] at key
  exact jx_ls (by exact ⟨rfl, rfl, rfl, trivial⟩) key
end RB
