/-! THE CLASS: island -/
section CZ22
variable {w : jWD} {l : Launch} {n : Nat} {I J K : Nat → Nat → Int32} {L M N : Nat → Nat → Int64} {R R' : Nat → Nat → Option Nat} {sz : Nat} {tp : Nat → Nat} {x : Nat × Nat × Nat} {T : Nat → Nat → Int32} {h g W H np len s : Nat}

set_option maxHeartbeats 1000000 in
set_option maxRecDepth 20000 in
theorem tX0_enter (hW : jWok w l) (hR : RS R) : jCD w l mX0_enter 2 [.ref 1040, .ref h] (n, shE, I, L, R) none (n, shE, fl I 1042 (fun _ => 0) 246, upL L 1040 2 0, upR R 1040 0 (some h)) := by
  refine jCD_of hW (by decide) rfl (Nat.le_of_ble_eq_true rfl) ?_
  refine jx_aload_n dX0_enter_0 rfl ?_
  refine jx_aload_n dX0_enter_1 rfl ?_
  refine jx_putR dX0_enter_2 flX0_29 rfl ⟨_, rfl⟩ (fun r h => by cases h; rfl) ?_
  refine jx_aload_n dX0_enter_5 rfl ?_
  refine jx_lconst (v := 0) dX0_enter_6 (by decide) ?_
  refine jx_putL dX0_enter_7 flX0_33 rfl rfl (fun r h => by cases h; rfl) ?_
  refine jx_aload_n dX0_enter_10 rfl ?_
  refine jx_getR dX0_enter_11 flX0_15 rfl rfl (RS_u hR rfl _ _ _ rfl) ?_
  refine jx_iconst (v := 0) dX0_enter_14 (by decide) ?_
  refine jx_Sv (as := [.ref _, .int _]) dX0_enter_15 mlX0_37 okJ7_fill_53178 stJ7_fill_53178 rfl rfl (by decide) (Nat.le_of_ble_eq_true rfl) (tJ7_fill_53178 hW (h := 246) _ rfl (by decide)) ?_
  refine jx_vret dX0_enter_18 rfl ?_
  exact ⟨rfl, rfl⟩
set_option maxHeartbeats 1000000 in
set_option maxRecDepth 20000 in
theorem tX5_faultPlace (hW : jWok w l) (hR : RS R) : jCD w l mX5_faultPlace 1 [.ref 1004] (n, shE, I, L, R) (some (.int (I 1005 7))) (n, shE, I, L, R) := by
  refine jCD_of hW (by decide) rfl (Nat.le_of_ble_eq_true rfl) ?_
  refine jx_aload_n dX5_faultPlace_0 rfl ?_
  refine jx_getR dX5_faultPlace_1 flX5_14 rfl rfl (hR _ _ _ rfl) ?_
  refine jx_getI dX5_faultPlace_4 flX5_29 rfl rfl ?_
  refine jx_iret dX5_faultPlace_7 rfl ?_
  exact ⟨rfl, rfl⟩
/-- what a text that is refused leaves as it was -/
def eqB (h : Nat) (I J : Nat → Nat → Int32) : Prop := ∀ b j : Nat, ¬ (b = 1000 ∧ (j = 1 ∨ j = 3)) → ¬ (1004 ≤ b ∧ b ≤ 1007) → ¬ (h ≤ b ∧ b < h + 16) → ¬ (b = 1059 ∧ j = 0) → J b j = I b j
/-- and one that is taken -/
def eqA (h : Nat) (I J : Nat → Nat → Int32) : Prop := ∀ b j : Nat, ¬ (b = 1000 ∧ (j = 1 ∨ j = 3 ∨ j = 10 ∨ j = 13 ∨ j = 15)) → ¬ (1004 ≤ b ∧ b ≤ 1007) → ¬ (h ≤ b ∧ b < h + 16) → b ≠ 1042 → ¬ (b = 1051 ∧ (j = 5 ∨ j = 9)) → J b j = I b j
def eqAL (h : Nat) (L M : Nat → Nat → Int64) : Prop := ∀ b j : Nat, b ≠ h + 1 → b ≠ h + 4 → ¬ (b = 1040 ∧ j = 2) → M b j = L b j
def IsB (h : Nat) (I J : Nat → Nat → Int32) (L M : Nat → Nat → Int64) (R R' : Nat → Nat → Option Nat) (res : (Nat × Nat × Nat) × (Nat → Nat → Int32)) (r : Int32) : Prop :=
  r = nI res.1.2.1 ∧ (∀ a k, ¬ (a = 1006 ∧ k = 3) → ¬ (a = 1004 ∧ k = 2) → R' a k = R a k) ∧ eqB h I J ∧ eqGL h L M ∧ CPk J ∧ J 1000 1 = 0 ∧ J 1000 3 = nI res.1.2.2 ∧ J 1059 0 = I 1059 0 + 1
def IsA (h g : Nat) (I J : Nat → Nat → Int32) (L M : Nat → Nat → Int64) (R R' : Nat → Nat → Option Nat) (T : Nat → Nat → Int32) (r : Int32) : Prop :=
  r = 0 ∧ (∀ a k, ¬ (a = 1006 ∧ k = 3) → ¬ (a = 1004 ∧ k = 2) → ¬ (a = 1000 ∧ (k = 4 ∨ k = 5)) → ¬ (a = 1040 ∧ k = 0) → R' a k = R a k) ∧ R' 1000 5 = some g ∧ eqA h I J ∧ eqAL h L M ∧ CPk J ∧ J 1000 1 = 0 ∧ J 1000 3 = -1 ∧ J 1000 10 = 0 ∧ J 1000 13 = -1 ∧ J 1000 15 = 0 ∧ J 1051 5 = 0 ∧ J 1051 9 = 0 ∧ ∃ W H np len, CX J M R' h T W H np len ∧ BT T W H np len

theorem upR_n {a k b j : Nat} {v : Option Nat} (q : ¬ (b = a ∧ j = k)) : upR R a k v b j = R b j := by unfold upR; rw [if_neg q]
/-- an island is the same where both its cells and what is told are the same -/
theorem CIs_g {T' : Nat → Nat → Int32} (hI : RI T W H np len) (hc : CIs I L h T W H np len) (g : ∀ b j, h ≤ b → b < h + 16 → b ≠ h + 7 → J b j = I b j) (gl : ∀ b j, (b = h + 1 ∨ b = h + 4) → M b j = L b j) (t : ∀ a j, tlR a j = true → T' a j = T a j) (t2 : ∀ k, k < len → T' 1082 k = T 1082 k) : CIs J M h T' W H np len := by
  obtain ⟨⟨⟨a1, a2⟩, a3, ⟨a4, a5⟩, ⟨a6, a7⟩, ⟨a8, a9⟩, ⟨b1, b2, b3⟩, b4⟩, ⟨c1, c2⟩, ⟨d1, d2⟩, ⟨f1, f2, f3, f4⟩, f5⟩ := hc
  have hT := RI.tq hI
  have hwh : W * H ≤ 9 * 7 := Nat.mul_le_mul hT.1.2 hT.2.1.2
  have hn := hI.2.2.2.2.1.2
  have h4 := hI.1.2.1.2
  have e : ∀ j, j < 17 → T' 1072 j = T 1072 j := fun j hj => t 1072 j (decide_eq_true (by omega))
  have e3 : ∀ c, c < W * H → T' 1073 c = T 1073 c := fun c hc => t 1073 c (decide_eq_true (by omega))
  have e4 : ∀ c, c < W * H → T' 1074 c = T 1074 c := fun c hc => t 1074 c (decide_eq_true (by omega))
  refine ⟨⟨⟨(g _ _ (by omega) (by omega) (by omega)).trans a1, (g _ _ (by omega) (by omega) (by omega)).trans a2⟩, fun c hc => ?_, ⟨?_, fun k hk => ?_⟩, ⟨?_, ?_⟩, ⟨?_, ?_⟩, ⟨(gl _ _ (by omega)).trans b1, (gl _ _ (by omega)).trans b2, (gl _ _ (by omega)).trans b3⟩, fun k hk => ?_⟩, ⟨(g _ _ (by omega) (by omega) (by omega)).trans c1, fun k hk => ?_⟩, ⟨(g _ _ (by omega) (by omega) (by omega)).trans d1, fun p k hp hk => ?_⟩, ⟨?_, ?_, ?_, ?_⟩, fun f hf => ?_⟩
  · rw [e3 c hc]; exact (g _ _ (by omega) (by omega) (by omega)).trans (a3 c hc)
  · rw [e 4 (by decide)]; exact (g _ _ (by omega) (by omega) (by omega)).trans a4
  · rw [e 4 (by decide)] at hk; rw [t 1075 k (decide_eq_true (by omega))]; exact (g _ _ (by omega) (by omega) (by omega)).trans (a5 k hk)
  · rw [e 5 (by decide)]; exact (g _ _ (by omega) (by omega) (by omega)).trans a6
  · rw [e 6 (by decide)]; exact (g _ _ (by omega) (by omega) (by omega)).trans a7
  · exact ((gl _ _ (by omega)).trans a8).trans (bs_c (fun c _ => decide_eq_decide.mpr ⟨fun q => ⟨q.1, (e4 c q.1).trans q.2⟩, fun q => ⟨q.1, (e4 c q.1).symm.trans q.2⟩⟩))
  · exact ((gl _ _ (by omega)).trans a9).trans (bs_c (fun c _ => decide_eq_decide.mpr ⟨fun q => ⟨q.1, (e4 c q.1).trans q.2⟩, fun q => ⟨q.1, (e4 c q.1).symm.trans q.2⟩⟩))
  · exact ((gl _ _ (by omega)).trans (b4 k hk)).trans (bs_c (fun c _ => decide_eq_decide.mpr ⟨fun q => ⟨q.1, by rw [e3 c q.1]; exact q.2⟩, fun q => ⟨q.1, by rw [← e3 c q.1]; exact q.2⟩⟩))
  · rw [t2 k hk]; exact (g _ _ (by omega) (by omega) (by omega)).trans (c2 k hk)
  · rw [t (1076 + k) p (decide_eq_true (by omega))]; exact (g _ _ (by omega) (by omega) (by omega)).trans (d2 p k hp hk)
  · rw [e 11 (by decide)]; exact (g _ _ (by omega) (by omega) (by omega)).trans f1
  · rw [e 7 (by decide)]; exact (g _ _ (by omega) (by omega) (by omega)).trans f2
  · rw [e 8 (by decide)]; exact (g _ _ (by omega) (by omega) (by omega)).trans f3
  · rw [e 9 (by decide)]; exact (g _ _ (by omega) (by omega) (by omega)).trans f4
  · rw [e (12 + f) (by omega)]; exact (g _ _ (by omega) (by omega) (by omega)).trans (f5 f hf)

set_option maxHeartbeats 1000000 in
set_option maxRecDepth 20000 in
theorem tX10_island (hW : jWok w l) (hR : RS R) (hh : h = 1008 ∨ h = 1024) {m tn : Nat} (hf : I 1000 1 = nI tn) (hm : m ≤ tn) (htn : tn ≤ 700) (ht : ∀ k, k < tn → I 1001 k = sb (tp k) ∧ tp k < 256) (hcp : CPk I) (hT : bgT T) (h4 : R 1000 4 = some g) (h5 : R 1000 5 = some h) : jRi w l mX10_island 11 [.ref 1000, .int (nI m)] (n, shE, I, L, R) (fun r t => ∃ J M R', t = (n, shE, J, M, R') ∧ ((islE tp m T).1.2.1 ≠ 0 → IsB h I J L M R R' (islE tp m T) r) ∧ ((islE tp m T).1.2.1 = 0 → IsA h g I J L M R R' (islE tp m T).2 r)) := by
  refine jRi_of hW (by decide) rfl (Nat.le_of_ble_eq_true rfl) ?_
  have hb5 : (islE tp m T).1.2.1 ≤ 5 := b5_isl
  generalize hres : islE tp m T = res at hb5
  refine jx_iload_n dX10_island_0 rfl ?_
  refine jx_ifN_lt (a := m) 12 dX10_island_1 (by decide) (by omega) ?_
  refine jx_iload_n dX10_island_4 rfl ?_
  refine jx_aload_n dX10_island_5 rfl ?_
  refine jx_getIE dX10_island_6 flX10_67 rfl rfl (hf) ?_
  refine jx_icmpN_le (a := m) (b := tn) 22 dX10_island_9 (by decide) (by omega) (by omega) (fun h9 => ?_) (fun h9 => ?_)
  · refine jx_aload_n dX10_island_22 rfl ?_
    refine jx_iconst (v := 0) dX10_island_23 (by decide) ?_
    refine jx_putI dX10_island_24 flX10_67 rfl rfl (fun r h => by cases h; rfl) ?_
    refine jx_aload_n dX10_island_27 rfl ?_
    refine jx_getR dX10_island_28 flX10_25 rfl rfl (hR _ _ _ rfl) ?_
    refine jx_iload_n dX10_island_31 rfl ?_
    refine jx_aload_n dX10_island_32 rfl ?_
    refine jx_getR dX10_island_33 flX10_36 rfl rfl h5 ?_
    refine jx_VRi (as := [.int _, .ref _]) dX10_island_36 mlX10_88 okX5_readAll viX5_readAll rfl rfl rfl rfl rfl (by decide) (Nat.le_of_ble_eq_true rfl) (tX5_readAll (sz := m) (tp := tp) (T := T) hW hR hh (by omega) (fun k hk => by rw [upI_nea (by decide)]; exact ht k (by omega)) (by exact ⟨hcp.choose, (upI_nea (by decide)).trans hcp.choose_spec.1, hcp.choose_spec.2⟩) hT) (fun x36 t36 hq36 => ?_)
    rw [hres] at hq36
    obtain ⟨J1, M1, R1, rfl, hF, rfl, q7, q0⟩ := hq36
    have hR2 := hF.rs hR
    refine jx_istore_n dX10_island_39 rfl (by decide) ?_
    refine jx_aload_n dX10_island_40 rfl ?_
    refine jx_iload_n dX10_island_41 rfl ?_
    refine jx_ifN_ne (a := res.1.2.1) 49 dX10_island_42 (by decide) (by omega) (fun h42 => ?_) (fun h42 => ?_)
    · skip
      refine jx_aload_n dX10_island_49 rfl ?_
      refine jx_getR dX10_island_50 flX10_25 rfl rfl (hR2 _ _ _ rfl) ?_
      refine jx_Vi (as := []) dX10_island_53 mlX10_92 okX5_faultPlace viX5_faultPlace rfl rfl rfl rfl rfl (by decide) (Nat.le_of_ble_eq_true rfl) (tX5_faultPlace hW hR2) ?_
      refine jx_putI dX10_island_56 flX10_71 rfl rfl (fun r h => by cases h; rfl) ?_
      refine jx_iload_n dX10_island_59 rfl ?_
      refine jx_ifN_eq (a := res.1.2.1) 78 dX10_island_60 (by decide) (by omega) (fun h60 => ?_) (fun h60 => ?_)
      · refine jx_aload_n dX10_island_78 rfl ?_
        refine jx_getR dX10_island_79 flX10_32 rfl rfl ((hF.1 1000 4 (by decide) (by decide)).trans h4) ?_
        refine jx_astore_n dX10_island_82 rfl (by decide) ?_
        refine jx_aload_n dX10_island_83 rfl ?_
        refine jx_aload_n dX10_island_84 rfl ?_
        refine jx_getR dX10_island_85 flX10_36 rfl rfl ((hF.1 1000 5 (by decide) (by decide)).trans h5) ?_
        refine jx_putR dX10_island_88 flX10_32 rfl ⟨_, rfl⟩ (fun r h => by cases h; rfl) ?_
        refine jx_aload_n dX10_island_91 rfl ?_
        refine jx_aload_n dX10_island_92 rfl ?_
        refine jx_putR dX10_island_93 flX10_36 rfl ⟨_, rfl⟩ (fun r h => by cases h; rfl) ?_
        refine jx_aload_n dX10_island_96 rfl ?_
        refine jx_getR dX10_island_97 flX10_44 rfl rfl (RS_u (RS_u hR2 rfl) rfl _ _ _ rfl) ?_
        refine jx_aload_n dX10_island_100 rfl ?_
        refine jx_getR dX10_island_101 flX10_32 rfl rfl ((upR_n (by decide)).trans upR_s) ?_
        refine jx_Vv (as := [.ref _]) dX10_island_104 mlX10_98 okX0_enter viX0_enter rfl rfl rfl rfl rfl (by decide) (Nat.le_of_ble_eq_true rfl) (tX0_enter (h := h) hW (RS_u (RS_u hR2 rfl) rfl)) ?_
        have hR3 := RS_u (a := 1040) (k := 0) (v := some h) (RS_u (a := 1000) (k := 5) (v := some g) (RS_u (a := 1000) (k := 4) (v := some h) hR2 rfl) rfl) rfl
        refine jx_aload_n dX10_island_107 rfl ?_
        refine jx_getR dX10_island_108 flX10_60 rfl rfl (hR3 _ _ _ rfl) ?_
        refine jx_iconst (v := 0) dX10_island_111 (by decide) ?_
        refine jx_putI dX10_island_112 flX10_101 rfl rfl (fun r h => by cases h; rfl) ?_
        refine jx_aload_n dX10_island_115 rfl ?_
        refine jx_getR dX10_island_116 flX10_60 rfl rfl (hR3 _ _ _ rfl) ?_
        refine jx_iconst (v := 0) dX10_island_119 (by decide) ?_
        refine jx_putI dX10_island_120 flX10_104 rfl rfl (fun r h => by cases h; rfl) ?_
        refine jx_aload_n dX10_island_123 rfl ?_
        refine jx_iconst (v := 0) dX10_island_124 (by decide) ?_
        refine jx_putZ dX10_island_125 flX10_107 rfl rfl (fun r h => by cases h; rfl) (by first | exact Or.inl rfl | exact Or.inr rfl | exact jb_or _) ?_
        refine jx_aload_n dX10_island_128 rfl ?_
        refine jx_iconst (v := 0) dX10_island_129 (by decide) ?_
        refine jx_putZ dX10_island_130 flX10_111 rfl rfl (fun r h => by cases h; rfl) (by first | exact Or.inl rfl | exact Or.inr rfl | exact jb_or _) ?_
        refine jx_aload_n dX10_island_133 rfl ?_
        refine jx_iconst (v := -1) dX10_island_134 (by decide) ?_
        refine jx_putI dX10_island_135 flX10_74 rfl rfl (fun r h => by cases h; rfl) ?_
        refine jx_iconst (v := 0) dX10_island_138 (by decide) ?_
        refine jx_iret dX10_island_139 rfl ?_
        exact absurd h60 h42
      · refine jx_aload_n dX10_island_63 rfl ?_
        refine jx_getR dX10_island_64 flX10_60 rfl rfl (hR2 _ _ _ rfl) ?_
        refine jx_getR dX10_island_67 flX10_95 rfl rfl (hR2 _ _ _ rfl) ?_
        refine jx_iconst (v := 0) dX10_island_70 (by decide) ?_
        refine jx_dup2 dX10_island_71 rfl rfl ?_
        refine jx_ialdN (0) dX10_island_72 rfl (rfl) (by omega) (by omega) ?_
        refine jx_iconst (v := 1) dX10_island_73 (by decide) ?_
        refine jx_iadd dX10_island_74 ?_
        refine jx_iastN (0) dX10_island_75 rfl (rfl) (by omega) (by omega) ?_
        refine jx_iload_n dX10_island_76 rfl ?_
        refine jx_iret dX10_island_77 rfl ?_
        refine ⟨_, rfl, _, M1, R1, rfl, fun _ => ⟨rfl, hF.1, fun b j c1 c2 c3 c4 => ?_, hF.2.2.2.1, ?_, ?_, ?_, ?_⟩, fun q => absurd q h60⟩
        · rw [upI_ne (fun q => c4 q), upI_ne (fun q => c1 ⟨q.1, Or.inr q.2⟩), hF.2.2.1 b j (by omega) (by omega) (by omega) (by omega) c3, upI_ne (fun q => c1 ⟨q.1, Or.inl q.2⟩)]
        · exact ⟨hF.2.2.2.2.choose, (upI_nea (by decide)).trans ((upI_nea (by decide)).trans hF.2.2.2.2.choose_spec.1), hF.2.2.2.2.choose_spec.2⟩
        · rw [upI_nea (by decide), upI_j (by decide)]; exact (hF.2.2.1 1000 1 (by omega) (by omega) (by omega) (by omega) (by omega)).trans upI_s
        · rw [upI_nea (by decide), upI_s]; exact q7 h60
        · rw [upI_s, upI_nea (by decide)]; exact congrArg (· + 1) ((hF.2.2.1 1059 0 (by omega) (by omega) (by omega) (by omega) (by omega)).trans (upI_nea (by decide)))
    · skip
      refine jx_iconst (v := -1) dX10_island_45 (by decide) ?_
      refine jx_goto 56 dX10_island_46 (by decide) ?_
      refine jx_putI dX10_island_56 flX10_71 rfl rfl (fun r h => by cases h; rfl) ?_
      refine jx_iload_n dX10_island_59 rfl ?_
      refine jx_ifN_eq (a := res.1.2.1) 78 dX10_island_60 (by decide) (by omega) (fun h60 => ?_) (fun h60 => ?_)
      · refine jx_aload_n dX10_island_78 rfl ?_
        refine jx_getR dX10_island_79 flX10_32 rfl rfl ((hF.1 1000 4 (by decide) (by decide)).trans h4) ?_
        refine jx_astore_n dX10_island_82 rfl (by decide) ?_
        refine jx_aload_n dX10_island_83 rfl ?_
        refine jx_aload_n dX10_island_84 rfl ?_
        refine jx_getR dX10_island_85 flX10_36 rfl rfl ((hF.1 1000 5 (by decide) (by decide)).trans h5) ?_
        refine jx_putR dX10_island_88 flX10_32 rfl ⟨_, rfl⟩ (fun r h => by cases h; rfl) ?_
        refine jx_aload_n dX10_island_91 rfl ?_
        refine jx_aload_n dX10_island_92 rfl ?_
        refine jx_putR dX10_island_93 flX10_36 rfl ⟨_, rfl⟩ (fun r h => by cases h; rfl) ?_
        refine jx_aload_n dX10_island_96 rfl ?_
        refine jx_getR dX10_island_97 flX10_44 rfl rfl (RS_u (RS_u hR2 rfl) rfl _ _ _ rfl) ?_
        refine jx_aload_n dX10_island_100 rfl ?_
        refine jx_getR dX10_island_101 flX10_32 rfl rfl ((upR_n (by decide)).trans upR_s) ?_
        refine jx_Vv (as := [.ref _]) dX10_island_104 mlX10_98 okX0_enter viX0_enter rfl rfl rfl rfl rfl (by decide) (Nat.le_of_ble_eq_true rfl) (tX0_enter (h := h) hW (RS_u (RS_u hR2 rfl) rfl)) ?_
        have hR3 := RS_u (a := 1040) (k := 0) (v := some h) (RS_u (a := 1000) (k := 5) (v := some g) (RS_u (a := 1000) (k := 4) (v := some h) hR2 rfl) rfl) rfl
        refine jx_aload_n dX10_island_107 rfl ?_
        refine jx_getR dX10_island_108 flX10_60 rfl rfl (hR3 _ _ _ rfl) ?_
        refine jx_iconst (v := 0) dX10_island_111 (by decide) ?_
        refine jx_putI dX10_island_112 flX10_101 rfl rfl (fun r h => by cases h; rfl) ?_
        refine jx_aload_n dX10_island_115 rfl ?_
        refine jx_getR dX10_island_116 flX10_60 rfl rfl (hR3 _ _ _ rfl) ?_
        refine jx_iconst (v := 0) dX10_island_119 (by decide) ?_
        refine jx_putI dX10_island_120 flX10_104 rfl rfl (fun r h => by cases h; rfl) ?_
        refine jx_aload_n dX10_island_123 rfl ?_
        refine jx_iconst (v := 0) dX10_island_124 (by decide) ?_
        refine jx_putZ dX10_island_125 flX10_107 rfl rfl (fun r h => by cases h; rfl) (by first | exact Or.inl rfl | exact Or.inr rfl | exact jb_or _) ?_
        refine jx_aload_n dX10_island_128 rfl ?_
        refine jx_iconst (v := 0) dX10_island_129 (by decide) ?_
        refine jx_putZ dX10_island_130 flX10_111 rfl rfl (fun r h => by cases h; rfl) (by first | exact Or.inl rfl | exact Or.inr rfl | exact jb_or _) ?_
        refine jx_aload_n dX10_island_133 rfl ?_
        refine jx_iconst (v := -1) dX10_island_134 (by decide) ?_
        refine jx_putI dX10_island_135 flX10_74 rfl rfl (fun r h => by cases h; rfl) ?_
        refine jx_iconst (v := 0) dX10_island_138 (by decide) ?_
        refine jx_iret dX10_island_139 rfl ?_
        refine ⟨_, rfl, _, _, _, rfl, fun q => absurd h60 q, fun _ => ⟨rfl, fun a k c1 c2 c3 c4 => ?_, ?_, fun b j c1 c2 c3 c4 c5 => ?_, fun b j c1 c2 c3 => ?_, ?_, ?_, ?_, ?_, ?_, ?_, ?_, ?_, ?_⟩⟩
        · rw [upR_n c4, upR_n (by omega), upR_n (by omega)]; exact hF.1 a k c1 c2
        · rw [upR_n (by decide), upR_s]
        · rw [upI_ne (by omega), upI_ne (by omega), upI_ne (by omega), upI_ne (by omega), upI_ne (by omega)]
          unfold fl
          rw [if_neg (fun q => c4 q.1), upI_ne (by omega), hF.2.2.1 b j (by omega) (by omega) (by omega) (by omega) c3, upI_ne (by omega)]
        · rw [upL_ne c3]; exact hF.2.2.2.1 b j c1 c2
        · exact ⟨hF.2.2.2.2.choose, hF.2.2.2.2.choose_spec.1, hF.2.2.2.2.choose_spec.2⟩
        · rw [upI_j (by decide), upI_j (by decide), upI_j (by decide), upI_nea (by decide), upI_nea (by decide)]
          unfold fl
          rw [if_neg (by decide), upI_j (by decide), hF.2.2.1 1000 1 (by omega) (by omega) (by omega) (by omega) (by omega), upI_s]
        · rfl
        · rfl
        · rfl
        · rfl
        · rfl
        · rfl
        · obtain ⟨W, H, np, len, hB, hC, hO⟩ := q0 h60
          refine ⟨W, H, np, len, ⟨⟨⟨hh, upR_s⟩, CIs_g hB.1 hC (fun b j c1 c2 _ => ?_) (fun b j c1 => upL_ne (by omega)) (fun _ _ _ => rfl) (fun _ _ => rfl), hB.1, hO, fun day hd hb => ?_, fun p day hp hd => Or.inl ?_⟩, ?_⟩, hB⟩
          · rw [upI_ne (by omega), upI_ne (by omega), upI_ne (by omega), upI_ne (by omega), upI_ne (by omega)]
            unfold fl
            rw [if_neg (by omega), upI_ne (by omega)]
          · rw [upL_s, bt_0] at hb; cases hb
          · rw [upI_nea (by decide), upI_nea (by decide), upI_nea (by decide), upI_nea (by decide), upI_nea (by decide)]
            unfold fl
            have := hB.1.2.2.2.2.1.2
            rw [if_pos ⟨rfl, by omega⟩]
          · rw [upR_n (by decide), upR_n (by decide), upR_s]
      · refine jx_aload_n dX10_island_63 rfl ?_
        refine jx_getR dX10_island_64 flX10_60 rfl rfl (hR2 _ _ _ rfl) ?_
        refine jx_getR dX10_island_67 flX10_95 rfl rfl (hR2 _ _ _ rfl) ?_
        refine jx_iconst (v := 0) dX10_island_70 (by decide) ?_
        refine jx_dup2 dX10_island_71 rfl rfl ?_
        refine jx_ialdN (0) dX10_island_72 rfl (rfl) (by omega) (by omega) ?_
        refine jx_iconst (v := 1) dX10_island_73 (by decide) ?_
        refine jx_iadd dX10_island_74 ?_
        refine jx_iastN (0) dX10_island_75 rfl (rfl) (by omega) (by omega) ?_
        refine jx_iload_n dX10_island_76 rfl ?_
        refine jx_iret dX10_island_77 rfl ?_
        exact absurd h42 h60
  · exact absurd h9 (by omega)
set_option maxHeartbeats 1000000 in
set_option maxRecDepth 20000 in
theorem tX10_islandF (hW : jWok w l) (hR : RS R) {tn : Nat} (hf : I 1000 1 = nI tn) (htn : tn ≤ 700) {m : Int32} (hv : ¬ (0 ≤ m.toInt ∧ m.toInt ≤ (tn : Int))) : jTh w l mX10_island 3 [.ref 1000, .int m] n I L R eI := by
  refine jTh_of hW (by decide) rfl (Nat.le_of_ble_eq_true rfl) ?_
  refine jx_iload_n dX10_island_0 rfl ?_
  refine jx_if_lt 12 dX10_island_1 (by decide) (fun h1 => ?_) (fun h1 => ?_)
  · exact jx_thI (is := 83) (len := 2) 0 rfl rfl rfl rfl rfl (Nat.le_of_ble_eq_true rfl) dX10_island_12 dX10_island_15 (Or.inl ⟨dX10_island_16, rfl⟩) dX10_island_18 dX10_island_21 (by decide) (by decide) (fun n1 hn1 => ⟨rfl, n1, hn1, rfl⟩)
  · refine jx_iload_n dX10_island_4 rfl ?_
    refine jx_aload_n dX10_island_5 rfl ?_
    refine jx_getIE dX10_island_6 flX10_67 rfl rfl (hf) ?_
    refine jx_icmp_le 22 dX10_island_9 (by decide) (fun h9 => ?_) (fun h9 => ?_)
    · exact absurd ⟨Int.not_lt.mp (fun q => h1 (i32_l0.mpr q)), (by rw [Int32.le_iff_toInt_le, nI_toInt (by omega)] at h9; exact h9)⟩ hv
    · exact jx_thI (is := 83) (len := 2) 0 rfl rfl rfl rfl rfl (Nat.le_of_ble_eq_true rfl) dX10_island_12 dX10_island_15 (Or.inl ⟨dX10_island_16, rfl⟩) dX10_island_18 dX10_island_21 (by decide) (by decide) (fun n1 hn1 => ⟨rfl, n1, hn1, rfl⟩)
end CZ22
