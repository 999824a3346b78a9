/-! special cases of the law: image, restore, sink, book -/
section SQ
variable {w : jWD} {l : Launch} {n : Nat} {I J K : Nat → Nat → Int32} {L M : Nat → Nat → Int64} {R : Nat → Nat → Option Nat} {h g W H np len b s tn : Nat} {tp : Nat → Nat}
/-- the image: both make nothing but the picture -/
def jImg (w : jWD) (l : Launch) (n : Nat) (I : Nat → Nat → Int32) (L : Nat → Nat → Int64) (R : Nat → Nat → Option Nat) : Prop :=
  ∃ J K, jCD w l mX10_image 3 [.ref 1000] (n, shE, I, L, R) none (n, shE, J, L, R) ∧ jCD w l mX11_image 2 [.ref 1069] (n, shE, J, L, R) none (n, shE, K, L, R) ∧ INV K L R
theorem img_e (I : Nat → Nat → Int32) {a j : Nat} (h1 : ¬ (a = 1000 ∧ j = 10)) (h2 : ¬ (1060 ≤ a ∧ a ≤ 1068)) (h3 : ¬ (a = 1069 ∧ (j = 2 ∨ j = 55 ∨ j = 56 ∨ j = 57))) (h4 : ¬ (1109 ≤ a ∧ a ≤ 1117)) : imgH (upI (cpyH I 1060 1051) 1000 10 1) a j = I a j := by
  unfold imgH cpyH
  rw [fl_ne (by omega), fl_ne (by omega), fl_ne (by omega), fl_ne (by omega), fl_ne (by omega), fl_ne (by omega), fl_ne (by omega), fl_ne (by omega), fl_ne (by omega), upI_ne (by omega), upI_ne (by omega), upI_ne (by omega), upI_ne (by omega), upI_ne (by omega),
    fl_ne (by omega), upI_ne (by omega), upI_ne (by omega), fl_ne (by omega), fl_ne (by omega), upI_ne (by omega), fl_ne (by omega), fl_ne (by omega), fl_ne (by omega), fl_ne (by omega), fl_ne (by omega)]
theorem res_e (I : Nat → Nat → Int32) {a j : Nat} (h1 : ¬ (1051 ≤ a ∧ a ≤ 1059)) (h2 : ¬ (a = 1069 ∧ (j = 2 ∨ j = 32 ∨ j = 33))) (h3 : ¬ (1094 ≤ a ∧ a ≤ 1098)) (h4 : ¬ (1104 ≤ a ∧ a ≤ 1106)) (h5 : a ≠ 1083) : resH (cpyH I 1051 1060) a j = I a j := by
  unfold resH cpyH
  rw [fl_ne (by omega), fl_ne (by omega), fl_ne (by omega), fl_ne (by omega), fl_ne (by omega), fl_ne (by omega), fl_ne (by omega), fl_ne (by omega), fl_ne (by omega), upI_ne (by omega), upI_ne (by omega), upI_ne (by omega),
    fl_ne (by omega), upI_ne (by omega), upI_ne (by omega), fl_ne (by omega), fl_ne (by omega), upI_ne (by omega), fl_ne (by omega), fl_ne (by omega), fl_ne (by omega), fl_ne (by omega), fl_ne (by omega)]
set_option maxHeartbeats 4000000 in
theorem kD_image (hW : jWok w l) (hV : INV I L R) : jImg w l n I L R := by
  obtain ⟨h, g, W, H, np, len, b, s, tn, tp, hv⟩ := hV
  have hRS := hv.rs
  have hsk : ∀ j, j < 12 → upI (cpyH I 1060 1051) 1000 10 1 1106 j &&& 1 = upI (cpyH I 1060 1051) 1000 10 1 1106 j := fun j hj => by
    have q : upI (cpyH I 1060 1051) 1000 10 1 1106 j = I 1106 j := by simp [cpyH, upI, fl]
    rw [q]
    exact (hv.pn j hj).1
  refine ⟨_, _, tX10_image hW hRS, tX11_image hW hRS hsk, ?_⟩
  generalize hK : imgH (upI (cpyH I 1060 1051) 1000 10 1) = K
  have e : ∀ a j, ¬ (a = 1000 ∧ j = 10) → ¬ (1060 ≤ a ∧ a ≤ 1068) → ¬ (a = 1069 ∧ (j = 2 ∨ j = 55 ∨ j = 56 ∨ j = 57)) → ¬ (1109 ≤ a ∧ a ≤ 1117) → K a j = I a j := fun a j h1 h2 h3 h4 => by rw [← hK]; exact img_e I h1 h2 h3 h4
  refine ⟨h, g, W, H, np, len, b, s, tn, tp, hv.rs, hv.hg, hv.r5, ?_, PT_f hv.wh.1 hv.wh.2 hv.pt (fun a j q => e a j (by omega) (by omega) (by omega) (by omega)), CPk_f hv.cp (e _ _ (by omega) (by omega) (by omega) (by omega)), PB_f hv.pb (fun a j q => e a j (by omega) (by omega) (by omega) (by omega)), PS_f hv.ps (fun a j q => e a j (by omega) (by omega) (by omega) (by omega)), ?_, PF_f hv.pf (fun a j q => e a j (by omega) (by omega) (by omega) (by omega)), PG_f hv.pg (fun a j q => e a j (by omega) (by omega) (by omega) (by omega)), PC_f hv.pc (fun a j q => e a j (by omega) (by omega) (by omega) (by omega)), PW_f hv.pw (fun a j q => e a j (by omega) (by omega) (by omega) (by omega)), PD_f hv.pd (fun a j q => e a j (by omega) (by omega) (by omega) (by omega)), ?_⟩
  · exact CX_KK hv.cx (fun a j _ _ => e a j (by omega) (by omega) (by omega) (by omega)) (fun a j _ _ => e a j (by omega) (by omega) (by omega) (by omega))
  · intro j hj
    rw [e 1106 j (by omega) (by omega) (by omega) (by omega)]
    refine ⟨(hv.pn j hj).1, ?_⟩
    have q : K 1117 j = I 1106 j := by rw [← hK]; simp [imgH, cpyH, upI, fl, hj]
    rw [q]
    exact (hv.pn j hj).1
  · refine ⟨true, by rw [← hK]; simp [imgH, cpyH, upI, fl, jb], by rw [← hK]; simp [imgH, cpyH, upI, fl, jb], fun _ => ⟨⟨b, BkF_c hv.pb ?_ ?_ ?_ ?_ ?_ ?_ ?_ ?_ ?_ ?_ ?_ ?_⟩, ⟨s, SkF_c hv.ps ?_ ?_ ?_ ?_ ?_ ?_ ?_ ?_⟩, fun j hj => ?_⟩⟩
    all_goals first | (intro i hi; rw [← hK]; simp [imgH, cpyH, upI, fl, hi]; done) | (rw [← hK]; simp [imgH, cpyH, upI, fl]; done) | (rw [← hK]; simp [imgH, cpyH, upI, fl, hj]; exact hv.pc j hj)
set_option maxHeartbeats 4000000 in
theorem kD_restore (hW : jWok w l) (hV : INV I L R) : jDir w l mX10_restore mX11_restore [] n I L R := by
  obtain ⟨h, g, W, H, np, len, b, s, tn, tp, hv⟩ := hV
  have hRS := hv.rs
  obtain ⟨z, z1, z2, z3⟩ := hv.pi
  refine ⟨3, 2, by decide, by decide, jCD_i (tX10_restore hW hRS z1) ⟨_, L, rfl, ?_⟩⟩
  cases z with
  | false =>
    rw [if_neg (by decide)]
    refine jCD_i (tX11_restore hW hRS z2 (fun q => absurd q (by decide))) ⟨rfl, _, rfl, ?_⟩
    rw [if_neg (by decide)]
    exact ⟨h, g, W, H, np, len, b, s, tn, tp, IV_2 hv 0⟩
  | true =>
    rw [if_pos rfl]
    have q55 : cpyH I 1051 1060 1069 55 = jb true := by
      have q : cpyH I 1051 1060 1069 55 = I 1069 55 := by simp [cpyH, upI, fl]
      rw [q]; exact z2
    have hsk : ∀ j, j < 12 → cpyH I 1051 1060 1117 j &&& 1 = cpyH I 1051 1060 1117 j := fun j hj => by
      have q : cpyH I 1051 1060 1117 j = I 1117 j := by simp [cpyH, upI, fl]
      rw [q]
      exact (hv.pn j hj).2
    refine jCD_i (tX11_restore hW hRS q55 (fun _ => hsk)) ⟨rfl, _, rfl, ?_⟩
    rw [if_pos rfl]
    obtain ⟨⟨b2, hb⟩, ⟨s2, hs⟩, hc⟩ := z3 rfl
    generalize hK : resH (cpyH I 1051 1060) = K
    have e : ∀ a j, ¬ (1051 ≤ a ∧ a ≤ 1059) → ¬ (a = 1069 ∧ (j = 2 ∨ j = 32 ∨ j = 33)) → ¬ (1094 ≤ a ∧ a ≤ 1098) → ¬ (1104 ≤ a ∧ a ≤ 1106) → a ≠ 1083 → K a j = I a j := fun a j h1 h2 h3 h4 h5 => by rw [← hK]; exact res_e I h1 h2 h3 h4 h5
    refine ⟨h, g, W, H, np, len, b2, s2, tn, tp, hv.rs, hv.hg, hv.r5, ?_, PT_f hv.wh.1 hv.wh.2 hv.pt (fun a j q => e a j (by omega) (by omega) (by omega) (by omega) (by omega)), CPk_f hv.cp (e _ _ (by omega) (by omega) (by omega) (by omega) (by omega)), ?_, ?_, ?_, PF_f hv.pf (fun a j q => e a j (by omega) (by omega) (by omega) (by omega) (by omega)), PG_f hv.pg (fun a j q => e a j (by omega) (by omega) (by omega) (by omega) (by omega)), ?_, PW_f hv.pw (fun a j q => e a j (by omega) (by omega) (by omega) (by omega) (by omega)), PD_f hv.pd (fun a j q => e a j (by omega) (by omega) (by omega) (by omega) (by omega)), PI_f hv.pi (fun a j q => e a j (by omega) (by omega) (by omega) (by omega) (by omega))⟩
    · exact CX_KK hv.cx (fun a j _ _ => e a j (by omega) (by omega) (by omega) (by omega) (by omega)) (fun a j _ _ => e a j (by omega) (by omega) (by omega) (by omega) (by omega))
    · refine BkF_c hb ?_ ?_ ?_ ?_ ?_ ?_ ?_ ?_ ?_ ?_ ?_ ?_
      all_goals first | (intro i hi; rw [← hK]; simp [resH, cpyH, upI, fl, hi]; done) | (rw [← hK]; simp [resH, cpyH, upI, fl]; done)
    · refine SkF_c hs ?_ ?_ ?_ ?_ ?_ ?_ ?_ ?_
      all_goals first | (intro i hi; rw [← hK]; simp [resH, cpyH, upI, fl, hi]; done) | (rw [← hK]; simp [resH, cpyH, upI, fl]; done)
    · intro j hj
      rw [e 1117 j (by omega) (by omega) (by omega) (by omega) (by omega)]
      refine ⟨?_, (hv.pn j hj).2⟩
      have q : K 1106 j = I 1117 j := by rw [← hK]; simp [resH, cpyH, upI, fl, hj]
      rw [q]
      exact (hv.pn j hj).2
    · intro j hj
      have q1 : K 1059 j = I 1068 j := by rw [← hK]; simp [resH, cpyH, upI, fl, hj]
      have q2 : K 1083 j = I 1116 j := by rw [← hK]; simp [resH, cpyH, upI, fl, hj]
      rw [q1, q2]
      exact hc j hj
theorem v1_or (v : Int32) : v &&& 1 = 0 ∨ v &&& 1 = 1 := by
  have e2 : (v &&& 1).toBitVec.toNat ≤ 1 := by rw [show (v &&& 1).toBitVec = v.toBitVec &&& 1#32 from rfl, BitVec.toNat_and]; exact Nat.and_le_right
  rcases Nat.le_one_iff_eq_zero_or_eq_one.mp e2 with e | e
  · exact Or.inl (Int32.toBitVec_inj.mp (BitVec.eq_of_toNat_eq (e.trans rfl)))
  · exact Or.inr (Int32.toBitVec_inj.mp (BitVec.eq_of_toNat_eq (e.trans rfl)))
theorem bit_o (x : Int32) : ∀ s, s < 12 → ∀ i, i < 12 → (((x ||| (1 <<< (nI s &&& 31))) >>> (nI i &&& 31)) &&& 1) = if i = s then 1 else ((x >>> (nI i &&& 31)) &&& 1) := by
  intro s hs i hi
  have hy : ∀ s, s < 12 → ∀ i, i < 12 → ((((1 : Int32) <<< (nI s &&& 31)) >>> (nI i &&& 31)) &&& 1) = if i = s then 1 else 0 := by decide +kernel
  have q := hy s hs i hi
  rw [Int32.shiftRight_or]
  generalize (1 : Int32) <<< (nI s &&& 31) >>> (nI i &&& 31) = y at q ⊢
  generalize x >>> (nI i &&& 31) = v
  have d : (v ||| y) &&& 1 = (v &&& 1) ||| (y &&& 1) := by
    apply Int32.toBitVec_inj.mp
    show (v.toBitVec ||| y.toBitVec) &&& 1#32 = (v.toBitVec &&& 1#32) ||| (y.toBitVec &&& 1#32)
    ext k hk
    simp [Bool.and_or_distrib_right]
  rw [d, q]
  have hv : v &&& 1 = 0 ∨ v &&& 1 = 1 := v1_or v
  by_cases z : i = s
  · rw [if_pos z, if_pos z]
    rcases hv with e | e <;> rw [e] <;> rfl
  · rw [if_neg z, if_neg z]
    rcases hv with e | e <;> rw [e] <;> rfl
theorem bit_a (x : Int32) : ∀ s, s < 12 → ∀ i, i < 12 → (((x &&& ((1 <<< (nI s &&& 31)) ^^^ (-1))) >>> (nI i &&& 31)) &&& 1) = if i = s then 0 else ((x >>> (nI i &&& 31)) &&& 1) := by
  intro s hs i hi
  have hy : ∀ s, s < 12 → ∀ i, i < 12 → (((((1 : Int32) <<< (nI s &&& 31)) ^^^ (-1)) >>> (nI i &&& 31)) &&& 1) = if i = s then 0 else 1 := by decide +kernel
  have q := hy s hs i hi
  rw [Int32.shiftRight_and]
  generalize ((1 : Int32) <<< (nI s &&& 31) ^^^ -1) >>> (nI i &&& 31) = y at q ⊢
  generalize x >>> (nI i &&& 31) = v
  have d : (v &&& y) &&& 1 = (v &&& 1) &&& (y &&& 1) := by
    apply Int32.toBitVec_inj.mp
    show (v.toBitVec &&& y.toBitVec) &&& 1#32 = (v.toBitVec &&& 1#32) &&& (y.toBitVec &&& 1#32)
    ext k hk
    simp only [BitVec.getElem_and]
    cases v.toBitVec[k] <;> cases y.toBitVec[k] <;> cases (1#32)[k] <;> rfl
  rw [d, q]
  have hv : v &&& 1 = 0 ∨ v &&& 1 = 1 := v1_or v
  by_cases z : i = s
  · rw [if_pos z, if_pos z]
    rcases hv with e | e <;> rw [e] <;> rfl
  · rw [if_neg z, if_neg z]
    rcases hv with e | e <;> rw [e] <;> rfl

end SQ
