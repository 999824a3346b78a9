/-! THE REFERENCE: signed numbers, cells -/
def pSg1 (tp : Nat → Nat) (sz : Nat) (x : Nat × Nat × Nat) : Nat × Nat × Nat := if mkQ tp sz x.1 x.2.1 45 = true then (nxt tp sz x.1, x.2.1, x.2.2) else x
def vSg (tp : Nat → Nat) (sz top : Nat) (x : Nat × Nat × Nat) : Int32 := if mkQ tp sz x.1 x.2.1 45 = true then -(nI (vNu tp sz 0 top (pSg1 tp sz x))) else nI (vNu tp sz 0 top (pSg1 tp sz x))
section RZ
variable {w : jWD} {l : Launch} {n : Nat} {I J : Nat → Nat → Int32} {L : Nat → Nat → Int64} {R : Nat → Nat → Option Nat}

set_option maxHeartbeats 1000000 in
set_option maxRecDepth 20000 in
theorem tX11_readSigned (hW : jWok w l) (hR : RS R) {sz b bd bp top : Nat} {tp : Nat → Nat} (hP : P3 I sz tp (b, bd, bp)) (ht : top < 100000) : jRi w l mX11_readSigned 4 [.ref 1069, .int (nI top)] (n, shE, I, L, R) (fun r t => r = vSg tp sz top (b, bd, bp) ∧ ∃ J, t = (n, shE, J, L, R) ∧ eqN I J ∧ P3 J sz tp (pNu tp sz 0 top (pSg1 tp sz (b, bd, bp)))) := by
  refine jRi_of hW (by decide) rfl (Nat.le_of_ble_eq_true rfl) ?_
  refine jx_aload_n dX11_readSigned_0 rfl ?_
  refine jx_bipush (v := 45) dX11_readSigned_1 (by decide) ?_
  refine jx_Vi (as := [.int _]) dX11_readSigned_3 mlX11_258 okX11_isMarked viX11_isMarked rfl rfl rfl rfl rfl (by decide) (Nat.le_of_ble_eq_true rfl) (tX11_isMarked (c := 45) hW hR hP.1 (by omega)) ?_
  refine jx_istore_n dX11_readSigned_6 rfl (by decide) ?_
  refine jx_iload_n dX11_readSigned_7 rfl ?_
  refine jx_ifB_eq 15 dX11_readSigned_8 (by decide) (fun h8 => ?_) (fun h8 => ?_)
  · have he1 : eqT I I := eqT_r I
    have hP1 : P3 I sz tp (pSg1 tp sz (b, bd, bp)) := by unfold pSg1; rw [if_neg (by rw [h8]; decide)]; exact hP
    refine jx_aload_n dX11_readSigned_15 rfl ?_
    refine jx_iconst (v := 0) dX11_readSigned_16 (by decide) ?_
    refine jx_iload_n dX11_readSigned_17 rfl ?_
    refine jx_VRi (as := [.int _, .int _]) dX11_readSigned_18 mlX11_271 okX11_readNumber viX11_readNumber rfl rfl rfl rfl rfl (by decide) (Nat.le_of_ble_eq_true rfl) (tX11_readNumber (lo := 0) hW hR (b := (pSg1 tp sz (b, bd, bp)).1) (bd := (pSg1 tp sz (b, bd, bp)).2.1) (bp := (pSg1 tp sz (b, bd, bp)).2.2) hP1 (by omega) ht) (fun x18 t18 hq18 => ?_)
    obtain ⟨rfl, J2, rfl, he2, hP2⟩ := hq18
    refine jx_istore_n dX11_readSigned_21 rfl (by decide) ?_
    refine jx_iload_n dX11_readSigned_22 rfl ?_
    refine jx_ifB_eq 31 dX11_readSigned_23 (by decide) (fun h23 => ?_) (fun h23 => ?_)
    · refine jx_iload_n dX11_readSigned_31 rfl ?_
      refine jx_iret dX11_readSigned_32 rfl ?_
      refine ⟨_, rfl, ?_, _, rfl, eqN_t (eqT_n he1) he2, hP2⟩
      unfold vSg
      rw [if_neg (by rw [h23]; decide)]
    · refine jx_iload_n dX11_readSigned_26 rfl ?_
      refine jx_ineg dX11_readSigned_27 ?_
      refine jx_goto 32 dX11_readSigned_28 (by decide) ?_
      refine jx_iret dX11_readSigned_32 rfl ?_
      refine ⟨_, rfl, ?_, _, rfl, eqN_t (eqT_n he1) he2, hP2⟩
      unfold vSg
      rw [if_pos h23]
  · refine jx_aload_n dX11_readSigned_11 rfl ?_
    refine jx_VRv (as := []) dX11_readSigned_12 mlX11_265 okX11_stepOn viX11_stepOn rfl rfl rfl rfl rfl (by decide) (Nat.le_of_ble_eq_true rfl) (tX11_stepOn hW hR hP.1.1 hP.1.2.1.1 (tEnd_le hP.1.2.2.1).2) (fun t12 hq12 => ?_)
    obtain ⟨J1, rfl, he1, hts⟩ := hq12
    have hP1 : P3 J1 sz tp (pSg1 tp sz (b, bd, bp)) := by unfold pSg1; rw [if_pos h8]; exact P3_step hP he1 hts
    refine jx_aload_n dX11_readSigned_15 rfl ?_
    refine jx_iconst (v := 0) dX11_readSigned_16 (by decide) ?_
    refine jx_iload_n dX11_readSigned_17 rfl ?_
    refine jx_VRi (as := [.int _, .int _]) dX11_readSigned_18 mlX11_271 okX11_readNumber viX11_readNumber rfl rfl rfl rfl rfl (by decide) (Nat.le_of_ble_eq_true rfl) (tX11_readNumber (lo := 0) hW hR (b := (pSg1 tp sz (b, bd, bp)).1) (bd := (pSg1 tp sz (b, bd, bp)).2.1) (bp := (pSg1 tp sz (b, bd, bp)).2.2) hP1 (by omega) ht) (fun x18 t18 hq18 => ?_)
    obtain ⟨rfl, J2, rfl, he2, hP2⟩ := hq18
    refine jx_istore_n dX11_readSigned_21 rfl (by decide) ?_
    refine jx_iload_n dX11_readSigned_22 rfl ?_
    refine jx_ifB_eq 31 dX11_readSigned_23 (by decide) (fun h23 => ?_) (fun h23 => ?_)
    · refine jx_iload_n dX11_readSigned_31 rfl ?_
      refine jx_iret dX11_readSigned_32 rfl ?_
      refine ⟨_, rfl, ?_, _, rfl, eqN_t (eqT_n he1) he2, hP2⟩
      unfold vSg
      rw [if_neg (by rw [h23]; decide)]
    · refine jx_iload_n dX11_readSigned_26 rfl ?_
      refine jx_ineg dX11_readSigned_27 ?_
      refine jx_goto 32 dX11_readSigned_28 (by decide) ?_
      refine jx_iret dX11_readSigned_32 rfl ?_
      refine ⟨_, rfl, ?_, _, rfl, eqN_t (eqT_n he1) he2, hP2⟩
      unfold vSg
      rw [if_pos h23]
end RZ
