def jb (b : Bool) : Int32 := if b then 1 else 0
theorem jb_or (b : Bool) : jb b = 0 ∨ jb b = 1 := by cases b <;> simp [jb]
section RA
variable {w : jWD} {l : Launch} {n : Nat} {I : Nat → Nat → Int32} {L : Nat → Nat → Int64} {R : Nat → Nat → Option Nat} {sh : Nat → Nat × Nat}

theorem tX11_isIn (hW : jWok w l) (v a b : Int64) (σ : jHS) : jCD w l mX11_isIn 1 [.long v, .long a, .long b] σ (some (.int (jb (decide (a ≤ v ∧ v ≤ b))))) σ := by
  refine jCD_of hW (by decide) rfl (Nat.le_of_ble_eq_true rfl) ?_
  refine jx_lload_n dX11_isIn_0 rfl ?_
  refine jx_lload_n dX11_isIn_1 rfl ?_
  refine jx_lcmp dX11_isIn_2 ?_
  refine jx_if_lt 17 dX11_isIn_3 (by decide) (fun h3 => ?_) (fun h3 => ?_)
  · refine jx_iconst (v := 0) dX11_isIn_17 (by decide) ?_
    refine jx_zret dX11_isIn_18 rfl ?_ ?_
    · first | exact Or.inl rfl | exact Or.inr rfl
    refine ⟨?_, rfl⟩
    sorry
  · refine jx_lload_n dX11_isIn_6 rfl ?_
    refine jx_lload dX11_isIn_7 rfl ?_
    refine jx_lcmp dX11_isIn_9 ?_
    refine jx_if_gt 17 dX11_isIn_10 (by decide) (fun h10 => ?_) (fun h10 => ?_)
    · refine jx_iconst (v := 0) dX11_isIn_17 (by decide) ?_
      refine jx_zret dX11_isIn_18 rfl ?_ ?_
      · first | exact Or.inl rfl | exact Or.inr rfl
      refine ⟨?_, rfl⟩
      sorry
    · refine jx_iconst (v := 1) dX11_isIn_13 (by decide) ?_
      refine jx_goto 18 dX11_isIn_14 (by decide) ?_
      refine jx_zret dX11_isIn_18 rfl ?_ ?_
      · first | exact Or.inl rfl | exact Or.inr rfl
      refine ⟨?_, rfl⟩
      sorry
theorem tX11_byteAt (hW : jWok w l) (hR : RS R) (k : Int32) : jCD w l mX11_byteAt 1 [.ref 1069, .int k] (n, shE, I, L, R) (some (.int (if k < I 1069 22 then I 1085 k.toNatClampNeg else -1))) (n, shE, I, L, R) := by
  refine jCD_of hW (by decide) rfl (Nat.le_of_ble_eq_true rfl) ?_
  refine jx_iload_n dX11_byteAt_0 rfl ?_
  refine jx_aload_n dX11_byteAt_1 rfl ?_
  refine jx_getI dX11_byteAt_2 flX11_201 rfl rfl ?_
  refine jx_icmp_ge 17 dX11_byteAt_5 (by decide) (fun h5 => ?_) (fun h5 => ?_)
  · refine jx_iconst (v := -1) dX11_byteAt_17 (by decide) ?_
    refine jx_iret dX11_byteAt_18 rfl ?_
    refine ⟨?_, rfl⟩
    sorry
  · refine jx_aload_n dX11_byteAt_8 rfl ?_
    refine jx_getR dX11_byteAt_9 flX11_75 rfl rfl (hR _ _ _ rfl) ?_
    refine jx_iload_n dX11_byteAt_12 rfl ?_
    refine jx_iald dX11_byteAt_13 rfl ?_ ?_
    · sorry
    refine jx_goto 18 dX11_byteAt_14 (by decide) ?_
    refine jx_iret dX11_byteAt_18 rfl ?_
    refine ⟨?_, rfl⟩
    sorry
theorem tX11_isCell (hW : jWok w l) (hR : RS R) (k : Int32) : jCD w l mX11_isCell 2 [.ref 1069, .int k] (n, shE, I, L, R) (some (.int 0)) (n, shE, I, L, R) := by
  refine jCD_of hW (by decide) rfl (Nat.le_of_ble_eq_true rfl) ?_
  refine jx_iload_n dX11_isCell_0 rfl ?_
  refine jx_i2l dX11_isCell_1 ?_
  refine jx_lconst (v := 0) dX11_isCell_2 (by decide) ?_
  refine jx_aload_n dX11_isCell_3 rfl ?_
  refine jx_getR dX11_isCell_4 flX11_34 rfl rfl (hR _ _ _ rfl) ?_
  refine jx_iconst (v := 0) dX11_isCell_7 (by decide) ?_
  refine jx_iald dX11_isCell_8 rfl ?_ ?_
  · sorry
  refine jx_aload_n dX11_isCell_9 rfl ?_
  refine jx_getR dX11_isCell_10 flX11_34 rfl rfl (hR _ _ _ rfl) ?_
  refine jx_iconst (v := 1) dX11_isCell_13 (by decide) ?_
  refine jx_iald dX11_isCell_14 rfl ?_ ?_
  · sorry
  refine jx_imul dX11_isCell_15 ?_
  refine jx_iconst (v := 1) dX11_isCell_16 (by decide) ?_
  refine jx_isub dX11_isCell_17 ?_
  refine jx_i2l dX11_isCell_18 ?_
  refine jx_Si (as := [.long _, .long _, .long _]) dX11_isCell_19 mlX11_190 okX11_isIn stX11_isIn rfl rfl (by decide) (Nat.le_of_ble_eq_true rfl) (tX11_isIn hW _ _ _ _) ?_
  refine jx_zret dX11_isCell_22 rfl ?_ ?_
  · first | exact Or.inl rfl | exact Or.inr rfl
  refine ⟨?_, rfl⟩
  sorry
end RA
