/-! THE CLASS: an island is cleared -/
section CZ17
variable {w : jWD} {l : Launch} {n : Nat} {I J : Nat → Nat → Int32} {L M : Nat → Nat → Int64} {R : Nat → Nat → Option Nat} {h W H : Nat} {T : Nat → Nat → Int32}
theorem bs_f {f : Nat → Bool} (h : ∀ c, c < 64 → f c = false) : bs f = 0 := by
  rw [← bs_z]
  exact bs_c (fun c hc => by rw [h c hc, decide_eq_false (Nat.not_lt_zero c)])

set_option maxHeartbeats 1000000 in
set_option maxRecDepth 20000 in
theorem tX6_clear (hW : jWok w l) (hR : RS R) (hh : h = 1008 ∨ h = 1024) : jRv w l mX6_clear 1 [.ref (h + 5)] (n, shE, I, L, R) (fun t => t = (n, shE, upI I (h + 5) 2 0, L, R)) := by
  refine jRv_of hW (by decide) rfl (Nat.le_of_ble_eq_true rfl) ?_
  rcases hh with rfl | rfl
  all_goals
    refine jx_aload_n dX6_clear_0 rfl ?_
    refine jx_iconst (v := 0) dX6_clear_1 (by decide) ?_
    refine jx_putI dX6_clear_2 flX6_18 rfl rfl (fun r h => by cases h; rfl) ?_
    refine jx_vret dX6_clear_5 rfl ?_
    exact ⟨rfl, rfl⟩
set_option maxHeartbeats 1000000 in
set_option maxRecDepth 20000 in
theorem tX1_clear (hW : jWok w l) (hR : RS R) (hh : h = 1008 ∨ h = 1024) (hT : bgT T) : jRv w l mX1_clear 3 [.ref h] (n, shE, I, L, R) (fun t => ∃ J M, t = (n, shE, J, M, R) ∧ (∀ b j, b < h ∨ h + 16 ≤ b → J b j = I b j) ∧ (∀ b j, b ≠ h + 1 → M b j = L b j) ∧ CTl J M h T 6 4) := by
  refine jRv_of hW (by decide) rfl (Nat.le_of_ble_eq_true rfl) ?_
  obtain ⟨t1, t2⟩ := hT
  have q := fun j hj => t1 j hj
  rcases hh with rfl | rfl
  all_goals
    refine jx_aload_n dX1_clear_0 rfl ?_
    refine jx_getR dX1_clear_1 flX1_12 rfl rfl (hR _ _ _ rfl) ?_
    refine jx_bipush (v := 6) dX1_clear_4 (by decide) ?_
    refine jx_iconst (v := 4) dX1_clear_6 (by decide) ?_
    refine jx_VRv (as := [.int _, .int _]) dX1_clear_7 mlX1_42 okX8_clear viX8_clear rfl rfl rfl rfl rfl (by decide) (Nat.le_of_ble_eq_true rfl) (tX8_clear (h := _) (W := 6) (H := 4) hW hR (by decide) (by decide) (by decide)) (fun t7 hq7 => ?_)
    obtain ⟨J1, M1, rfl, f1, f2, c1, s1, s2, s3⟩ := hq7
    refine jx_aload_n dX1_clear_10 rfl ?_
    refine jx_getR dX1_clear_11 flX1_21 rfl rfl (hR _ _ _ rfl) ?_
    refine jx_VRv (as := []) dX1_clear_14 mlX1_45 okX6_clear viX6_clear rfl rfl rfl rfl rfl (by decide) (Nat.le_of_ble_eq_true rfl) (tX6_clear hW hR (by decide)) (fun t14 hq14 => ?_)
    subst hq14
    refine jx_aload_n dX1_clear_17 rfl ?_
    refine jx_iconst (v := 0) dX1_clear_18 (by decide) ?_
    refine jx_putI dX1_clear_19 flX1_46 rfl rfl (fun r h => by cases h; rfl) ?_
    refine jx_aload_n dX1_clear_22 rfl ?_
    refine jx_iconst (v := 0) dX1_clear_23 (by decide) ?_
    refine jx_putI dX1_clear_24 flX1_50 rfl rfl (fun r h => by cases h; rfl) ?_
    refine jx_aload_n dX1_clear_27 rfl ?_
    refine jx_iconst (v := 0) dX1_clear_28 (by decide) ?_
    refine jx_putI dX1_clear_29 flX1_53 rfl rfl (fun r h => by cases h; rfl) ?_
    refine jx_aload_n dX1_clear_32 rfl ?_
    refine jx_iconst (v := 2) dX1_clear_33 (by decide) ?_
    refine jx_putI dX1_clear_34 flX1_56 rfl rfl (fun r h => by cases h; rfl) ?_
    refine jx_aload_n dX1_clear_37 rfl ?_
    refine jx_bipush (v := 9) dX1_clear_38 (by decide) ?_
    refine jx_putI dX1_clear_40 flX1_59 rfl rfl (fun r h => by cases h; rfl) ?_
    refine jx_aload_n dX1_clear_43 rfl ?_
    refine jx_getR dX1_clear_44 flX1_31 rfl rfl (hR _ _ _ rfl) ?_
    refine jx_iconst (v := 0) dX1_clear_47 (by decide) ?_
    refine jx_Sv (as := [.ref _, .int _]) dX1_clear_48 mlX1_62 okJ7_fill_53178 stJ7_fill_53178 rfl rfl (by decide) (Nat.le_of_ble_eq_true rfl) (tJ7_fill_53178 hW (h := 4) _ rfl (by decide)) ?_
    refine jx_aload_n dX1_clear_51 rfl ?_
    refine jx_getR dX1_clear_52 flX1_31 rfl rfl (hR _ _ _ rfl) ?_
    refine jx_iconst (v := 0) dX1_clear_55 (by decide) ?_
    refine jx_iconst (v := 1) dX1_clear_56 (by decide) ?_
    refine jx_iastN (0) dX1_clear_57 rfl (rfl) (by omega) (by omega) ?_
    refine jx_vret dX1_clear_58 rfl ?_
    refine ⟨rfl, _, M1, rfl, fun b j hb => ?_, f2, ⟨c1.1, fun c hc => ?_, ?_, ⟨?_, ?_⟩, ⟨?_, fun k hk => ?_, ?_⟩, ⟨?_, ?_⟩, ⟨s1, s2, s3⟩, ⟨?_, fun k hk => ?_⟩, ⟨?_, fun p k hp hk => ?_⟩, ⟨?_, ?_, ?_, ?_⟩, fun f hf => ?_⟩⟩
    · rw [upI_nea (by omega)]; unfold fl; rw [if_neg (fun q => by omega), upI_nea (by omega), upI_nea (by omega), upI_nea (by omega), upI_nea (by omega), upI_nea (by omega), upI_nea (by omega)]; exact f1 b j (by omega) (by omega)
    · exact (c1.2.2.1 c (by omega)).trans (t2 c (by omega)).1.symm
    · rw [c1.2.2.2.1]; exact (bs_f (fun c _ => decide_eq_false (fun q => q.2 (t2 c (by omega)).2.2))).symm
    · rw [c1.2.2.2.2.1]; exact (bs_f (fun c _ => decide_eq_false (fun q => by rw [(t2 c (by omega)).2.1] at q; exact absurd q.2 (by decide)))).symm
    · rw [c1.2.2.2.2.2.1]; exact (bs_f (fun c _ => decide_eq_false (fun q => by rw [(t2 c (by omega)).2.1] at q; exact absurd q.2 (by decide)))).symm
    · exact c1.2.1.1.trans (q 4 (by decide)).symm
    · rw [q 4 (by decide)] at hk; exact absurd hk (Nat.not_lt_zero k)
    · rw [c1.2.2.2.2.2.2, q 4 (by decide)]; exact (bs_f (fun c _ => by show (_ && anyN _ 0) = false; exact Bool.and_false _)).symm
    · exact c1.2.1.2.1.trans (q 5 (by decide)).symm
    · exact c1.2.1.2.2.trans (q 6 (by decide)).symm
    · exact (q 16 (by decide)).symm
    · rw [q 16 (by decide)] at hk; exact absurd hk (Nat.not_lt_zero k)
    · exact (q 10 (by decide)).symm
    · rw [q 10 (by decide)] at hp; exact absurd hp (Nat.not_lt_zero p)
    · exact (q 11 (by decide)).symm
    · exact (q 7 (by decide)).symm
    · exact (q 8 (by decide)).symm
    · exact (q 9 (by decide)).symm
    · have hf4 : f = 0 ∨ f = 1 ∨ f = 2 ∨ f = 3 := by omega
      rcases hf4 with rfl | rfl | rfl | rfl
      · exact (q 12 (by decide)).symm
      · exact (q 13 (by decide)).symm
      · exact (q 14 (by decide)).symm
      · exact (q 15 (by decide)).symm
end CZ17
