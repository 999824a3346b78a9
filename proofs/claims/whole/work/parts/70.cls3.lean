/-! THE CLASS: the rule of the water -/
def okS (s : Int32) : Prop := (-4 : Int32) ≤ s ∨ s = -20 ∨ s = -21 ∨ s = -22 ∨ s = -23 ∨ s = -24 ∨ s = -25 ∨ s = -26 ∨ s = -27 ∨ s = -28
def jn (z x y : Int32) : Int32 := if z = -5 then (if x ≠ 0 ∨ y ≠ 0 then 1 else 0) else if z = -6 then (if x ≠ 0 ∧ y ≠ 0 then 1 else 0) else if z = -8 then (if x < y then 1 else 0) else if z = -9 then (if x = y then 1 else 0) else if z = -10 then x + y else if z = -11 then x - y else if z = -12 then x * y else if y = 0 then 0 else x / y
theorem opc_a {s : Int32} (h : (-4 : Int32) ≤ s) : opc s = s ∧ (-20 : Int32) < s := by
  have h1 := Int32.le_iff_toInt_le.mp h
  rw [show (-4 : Int32).toInt = -4 from by decide] at h1
  have ne : ∀ z : Int32, z.toInt < -4 → s ≠ z := fun z hz e => by rw [e] at h1; omega
  refine ⟨?_, Int32.lt_iff_toInt_lt.mpr (by rw [show (-20 : Int32).toInt = -20 from by decide]; omega)⟩
  unfold opc
  rw [if_neg (ne _ (by decide)), if_neg (ne _ (by decide)), if_neg (ne _ (by decide)), if_neg (ne _ (by decide)), if_neg (ne _ (by decide)), if_neg (ne _ (by decide)), if_neg (ne _ (by decide)), if_neg (ne _ (by decide)), if_neg (ne _ (by decide))]
theorem opc_b {s : Int32} (h : okS s) (h2 : ¬ opc s < -4) : (-4 : Int32) ≤ s := by
  rcases h with h | h | h | h | h | h | h | h | h | h
  · exact h
  all_goals (rw [h] at h2; exact absurd (by decide) h2)
theorem opc_c {s : Int32} (h : okS s) (h2 : opc s < -4) : ¬ (-20 : Int32) < s ∧ (opc s = -7 ↔ s = -28) ∧ (opc s ≠ -7 → ∀ x y, jn (opc s) x y = wop s x y) := by
  rcases h with h | h | h | h | h | h | h | h | h | h
  · rw [(opc_a h).1] at h2
    exact absurd h2 (Int32.not_lt.mpr h)
  all_goals (subst h; exact ⟨by decide, by decide, fun q x y => by first | rfl | exact absurd (by decide) q⟩)
section CC
variable {w : jWD} {l : Launch} {n : Nat} {I : Nat → Nat → Int32} {L : Nat → Nat → Int64} {R : Nat → Nat → Option Nat}

set_option maxHeartbeats 1000000 in
set_option maxRecDepth 20000 in
theorem tX6_joined (hW : jWok w l) (z x y : Int32) (σ : jHS) : jCD w l mX6_joined 1 [.int z, .int x, .int y] σ (some (.int (jn z x y))) σ := by
  refine jCD_of hW (by decide) rfl (Nat.le_of_ble_eq_true rfl) ?_
  refine jx_iload_n dX6_joined_0 rfl ?_
  by_cases hs1_0 : z = (-12)
  · subst hs1_0
    refine jx_tsIn 106 dX6_joined_1 (by decide) (by decide) rfl (by decide) ?_
    refine jx_iload_n dX6_joined_106 rfl ?_
    refine jx_iload_n dX6_joined_107 rfl ?_
    refine jx_imul dX6_joined_108 ?_
    refine jx_iret dX6_joined_109 rfl ?_
    refine ⟨?_, rfl⟩
    first | rfl | (unfold jn; simp_all) | (unfold jn; simp [*]) | (unfold jn; rw [if_neg (by assumption)]; simp_all)
  by_cases hs1_1 : z = (-11)
  · subst hs1_1
    refine jx_tsIn 102 dX6_joined_1 (by decide) (by decide) rfl (by decide) ?_
    refine jx_iload_n dX6_joined_102 rfl ?_
    refine jx_iload_n dX6_joined_103 rfl ?_
    refine jx_isub dX6_joined_104 ?_
    refine jx_iret dX6_joined_105 rfl ?_
    refine ⟨?_, rfl⟩
    first | rfl | (unfold jn; simp_all) | (unfold jn; simp [*]) | (unfold jn; rw [if_neg (by assumption)]; simp_all)
  by_cases hs1_2 : z = (-10)
  · subst hs1_2
    refine jx_tsIn 98 dX6_joined_1 (by decide) (by decide) rfl (by decide) ?_
    refine jx_iload_n dX6_joined_98 rfl ?_
    refine jx_iload_n dX6_joined_99 rfl ?_
    refine jx_iadd dX6_joined_100 ?_
    refine jx_iret dX6_joined_101 rfl ?_
    refine ⟨?_, rfl⟩
    first | rfl | (unfold jn; simp_all) | (unfold jn; simp [*]) | (unfold jn; rw [if_neg (by assumption)]; simp_all)
  by_cases hs1_3 : z = (-9)
  · subst hs1_3
    refine jx_tsIn 87 dX6_joined_1 (by decide) (by decide) rfl (by decide) ?_
    refine jx_iload_n dX6_joined_87 rfl ?_
    refine jx_iload_n dX6_joined_88 rfl ?_
    refine jx_icmp_ne 96 dX6_joined_89 (by decide) (fun h89 => ?_) (fun h89 => ?_)
    · refine jx_iconst (v := 0) dX6_joined_96 (by decide) ?_
      refine jx_iret dX6_joined_97 rfl ?_
      refine ⟨?_, rfl⟩
      first | rfl | (unfold jn; simp_all) | (unfold jn; simp [*]) | (unfold jn; rw [if_neg (by assumption)]; simp_all)
    · refine jx_iconst (v := 1) dX6_joined_92 (by decide) ?_
      refine jx_goto 97 dX6_joined_93 (by decide) ?_
      refine jx_iret dX6_joined_97 rfl ?_
      refine ⟨?_, rfl⟩
      first | rfl | (unfold jn; simp_all) | (unfold jn; simp [*]) | (unfold jn; rw [if_neg (by assumption)]; simp_all)
  by_cases hs1_4 : z = (-8)
  · subst hs1_4
    refine jx_tsIn 76 dX6_joined_1 (by decide) (by decide) rfl (by decide) ?_
    refine jx_iload_n dX6_joined_76 rfl ?_
    refine jx_iload_n dX6_joined_77 rfl ?_
    refine jx_icmp_ge 85 dX6_joined_78 (by decide) (fun h78 => ?_) (fun h78 => ?_)
    · refine jx_iconst (v := 0) dX6_joined_85 (by decide) ?_
      refine jx_iret dX6_joined_86 rfl ?_
      refine ⟨?_, rfl⟩
      first | rfl | (unfold jn; simp_all) | (unfold jn; simp [*]) | (unfold jn; rw [if_neg (by assumption)]; simp_all)
    · refine jx_iconst (v := 1) dX6_joined_81 (by decide) ?_
      refine jx_goto 86 dX6_joined_82 (by decide) ?_
      refine jx_iret dX6_joined_86 rfl ?_
      refine ⟨?_, rfl⟩
      first | rfl | (unfold jn; simp_all) | (unfold jn; simp [*]) | (unfold jn; rw [if_neg (by assumption)]; simp_all)
  by_cases hs1_5 : z = (-7)
  · subst hs1_5
    refine jx_tsIn 110 dX6_joined_1 (by decide) (by decide) rfl (by decide) ?_
    refine jx_iload_n dX6_joined_110 rfl ?_
    refine jx_if_ne 118 dX6_joined_111 (by decide) (fun h111 => ?_) (fun h111 => ?_)
    · refine jx_iload_n dX6_joined_118 rfl ?_
      refine jx_iload_n dX6_joined_119 rfl ?_
      refine jx_idiv dX6_joined_120 ?_ ?_
      · exact h111
      refine jx_iret dX6_joined_121 rfl ?_
      refine ⟨?_, rfl⟩
      first | rfl | (unfold jn; simp_all) | (unfold jn; simp [*]) | (unfold jn; rw [if_neg (by assumption)]; simp_all)
    · refine jx_iconst (v := 0) dX6_joined_114 (by decide) ?_
      refine jx_goto 121 dX6_joined_115 (by decide) ?_
      refine jx_iret dX6_joined_121 rfl ?_
      refine ⟨?_, rfl⟩
      first | rfl | (unfold jn; simp_all) | (unfold jn; simp [*]) | (unfold jn; rw [if_neg (by assumption)]; simp_all)
  by_cases hs1_6 : z = (-6)
  · subst hs1_6
    refine jx_tsIn 62 dX6_joined_1 (by decide) (by decide) rfl (by decide) ?_
    refine jx_iload_n dX6_joined_62 rfl ?_
    refine jx_if_eq 74 dX6_joined_63 (by decide) (fun h63 => ?_) (fun h63 => ?_)
    · refine jx_iconst (v := 0) dX6_joined_74 (by decide) ?_
      refine jx_iret dX6_joined_75 rfl ?_
      refine ⟨?_, rfl⟩
      first | rfl | (unfold jn; simp_all) | (unfold jn; simp [*]) | (unfold jn; rw [if_neg (by assumption)]; simp_all)
    · refine jx_iload_n dX6_joined_66 rfl ?_
      refine jx_if_eq 74 dX6_joined_67 (by decide) (fun h67 => ?_) (fun h67 => ?_)
      · refine jx_iconst (v := 0) dX6_joined_74 (by decide) ?_
        refine jx_iret dX6_joined_75 rfl ?_
        refine ⟨?_, rfl⟩
        first | rfl | (unfold jn; simp_all) | (unfold jn; simp [*]) | (unfold jn; rw [if_neg (by assumption)]; simp_all)
      · refine jx_iconst (v := 1) dX6_joined_70 (by decide) ?_
        refine jx_goto 75 dX6_joined_71 (by decide) ?_
        refine jx_iret dX6_joined_75 rfl ?_
        refine ⟨?_, rfl⟩
        first | rfl | (unfold jn; simp_all) | (unfold jn; simp [*]) | (unfold jn; rw [if_neg (by assumption)]; simp_all)
  by_cases hs1_7 : z = (-5)
  · subst hs1_7
    refine jx_tsIn 48 dX6_joined_1 (by decide) (by decide) rfl (by decide) ?_
    refine jx_iload_n dX6_joined_48 rfl ?_
    refine jx_if_ne 56 dX6_joined_49 (by decide) (fun h49 => ?_) (fun h49 => ?_)
    · refine jx_iconst (v := 1) dX6_joined_56 (by decide) ?_
      refine jx_goto 61 dX6_joined_57 (by decide) ?_
      refine jx_iret dX6_joined_61 rfl ?_
      refine ⟨?_, rfl⟩
      first | rfl | (unfold jn; simp_all) | (unfold jn; simp [*]) | (unfold jn; rw [if_neg (by assumption)]; simp_all)
    · refine jx_iload_n dX6_joined_52 rfl ?_
      refine jx_if_eq 60 dX6_joined_53 (by decide) (fun h53 => ?_) (fun h53 => ?_)
      · refine jx_iconst (v := 0) dX6_joined_60 (by decide) ?_
        refine jx_iret dX6_joined_61 rfl ?_
        refine ⟨?_, rfl⟩
        first | rfl | (unfold jn; simp_all) | (unfold jn; simp [*]) | (unfold jn; rw [if_neg (by assumption)]; simp_all)
      · refine jx_iconst (v := 1) dX6_joined_56 (by decide) ?_
        refine jx_goto 61 dX6_joined_57 (by decide) ?_
        refine jx_iret dX6_joined_61 rfl ?_
        refine ⟨?_, rfl⟩
        first | rfl | (unfold jn; simp_all) | (unfold jn; simp [*]) | (unfold jn; rw [if_neg (by assumption)]; simp_all)
  refine jx_tsOut 110 dX6_joined_1 ?_ (by decide) ?_
  · have z0 := lv_neT hs1_0 (a := -12) rfl; have z1 := lv_neT hs1_1 (a := -11) rfl; have z2 := lv_neT hs1_2 (a := -10) rfl; have z3 := lv_neT hs1_3 (a := -9) rfl; have z4 := lv_neT hs1_4 (a := -8) rfl; have z5 := lv_neT hs1_5 (a := -7) rfl; have z6 := lv_neT hs1_6 (a := -6) rfl; have z7 := lv_neT hs1_7 (a := -5) rfl; omega
  refine jx_iload_n dX6_joined_110 rfl ?_
  refine jx_if_ne 118 dX6_joined_111 (by decide) (fun h111 => ?_) (fun h111 => ?_)
  · refine jx_iload_n dX6_joined_118 rfl ?_
    refine jx_iload_n dX6_joined_119 rfl ?_
    refine jx_idiv dX6_joined_120 ?_ ?_
    · exact h111
    refine jx_iret dX6_joined_121 rfl ?_
    refine ⟨?_, rfl⟩
    first | rfl | (unfold jn; simp_all) | (unfold jn; simp [*]) | (unfold jn; rw [if_neg (by assumption)]; simp_all)
  · refine jx_iconst (v := 0) dX6_joined_114 (by decide) ?_
    refine jx_goto 121 dX6_joined_115 (by decide) ?_
    refine jx_iret dX6_joined_121 rfl ?_
    refine ⟨?_, rfl⟩
    first | rfl | (unfold jn; simp_all) | (unfold jn; simp [*]) | (unfold jn; rw [if_neg (by assumption)]; simp_all)
set_option maxHeartbeats 1000000 in
set_option maxRecDepth 20000 in
theorem tX6_valueOf (hW : jWok w l) {z : Int32} (h1 : (-4 : Int32) ≤ z) (h2 : z < 0) {day tick : Nat} (hd : day ≤ 40) (ht : tick < 96) (wind : Int32) (σ : jHS) : jCD w l mX6_valueOf 1 [.int z, .int (nI day), .int (nI tick), .int wind] σ (some (.int (wenv day tick wind z))) σ := by
  refine jCD_of hW (by decide) rfl (Nat.le_of_ble_eq_true rfl) ?_
  refine jx_iload_n dX6_valueOf_0 rfl ?_
  by_cases hs1_0 : z = (-3)
  · subst hs1_0
    refine jx_tsIn 34 dX6_valueOf_1 (by decide) (by decide) rfl (by decide) ?_
    refine jx_iload_n dX6_valueOf_34 rfl ?_
    refine jx_iret dX6_valueOf_35 rfl ?_
    refine ⟨?_, rfl⟩
    first | rfl | (unfold wenv; rw [if_neg (Int32.not_le.mpr h2), if_neg hs1_2, if_neg hs1_1, if_neg hs1_0])
  by_cases hs1_1 : z = (-2)
  · subst hs1_1
    refine jx_tsIn 32 dX6_valueOf_1 (by decide) (by decide) rfl (by decide) ?_
    refine jx_iload_n dX6_valueOf_32 rfl ?_
    refine jx_iret dX6_valueOf_33 rfl ?_
    refine ⟨?_, rfl⟩
    first | rfl | (unfold wenv; rw [if_neg (Int32.not_le.mpr h2), if_neg hs1_2, if_neg hs1_1, if_neg hs1_0])
  by_cases hs1_2 : z = (-1)
  · subst hs1_2
    refine jx_tsIn 28 dX6_valueOf_1 (by decide) (by decide) rfl (by decide) ?_
    refine jx_iload_n dX6_valueOf_28 rfl ?_
    refine jx_iconst (v := 4) dX6_valueOf_29 (by decide) ?_
    refine jx_idivE (z := nI (tick / 4)) dX6_valueOf_30 (nI_ne0 (n := 4) (by omega) (by omega)) (pk_div (a := tick) (d := 4) (by omega) (by omega) (by omega)) ?_
    refine jx_iret dX6_valueOf_31 rfl ?_
    refine ⟨?_, rfl⟩
    first | rfl | (unfold wenv; rw [if_neg (Int32.not_le.mpr h2), if_neg hs1_2, if_neg hs1_1, if_neg hs1_0])
  refine jx_tsOut 36 dX6_valueOf_1 ?_ (by decide) ?_
  · have z0 := lv_neT hs1_0 (a := -3) rfl; have z1 := lv_neT hs1_1 (a := -2) rfl; have z2 := lv_neT hs1_2 (a := -1) rfl; omega
  refine jx_iload_n dX6_valueOf_36 rfl ?_
  refine jx_iret dX6_valueOf_37 rfl ?_
  refine ⟨?_, rfl⟩
  first | rfl | (unfold wenv; rw [if_neg (Int32.not_le.mpr h2), if_neg hs1_2, if_neg hs1_1, if_neg hs1_0])
set_option maxHeartbeats 1000000 in
set_option maxRecDepth 20000 in
theorem tX6_usualLevel (hW : jWok w l) {tick : Nat} (ht : tick < 96) (σ : jHS) : jCD w l mX6_usualLevel 1 [.int (nI tick)] σ (some (.int (nI (usual tick)))) σ := by
  refine jCD_of hW (by decide) rfl (Nat.le_of_ble_eq_true rfl) ?_
  have hmm := Nat.mod_lt (tick / 4) (y := 12) (by omega)
  refine jx_iload_n dX6_usualLevel_0 rfl ?_
  refine jx_iconst (v := 4) dX6_usualLevel_1 (by decide) ?_
  refine jx_idivE (z := nI (tick / 4)) dX6_usualLevel_2 (nI_ne0 (n := 4) (by omega) (by omega)) (pk_div (a := tick) (d := 4) (by omega) (by omega) (by omega)) ?_
  refine jx_bipush (v := 12) dX6_usualLevel_3 (by decide) ?_
  refine jx_iremE (z := nI ((tick / 4) % 12)) dX6_usualLevel_5 (nI_ne0 (n := 12) (by omega) (by omega)) (pk_rem (a := (tick / 4)) (d := 12) (by omega) (by omega) (by omega)) ?_
  refine jx_istore_n dX6_usualLevel_6 rfl (by decide) ?_
  refine jx_iload_n dX6_usualLevel_7 rfl ?_
  refine jx_bipush (v := 6) dX6_usualLevel_8 (by decide) ?_
  refine jx_icmpN_le (a := ((tick / 4) % 12)) (b := 6) 20 dX6_usualLevel_10 (by decide) (by omega) (by omega) (fun h10 => ?_) (fun h10 => ?_)
  · refine jx_iload_n dX6_usualLevel_20 rfl ?_
    refine jx_iret dX6_usualLevel_21 rfl ?_
    refine ⟨?_, rfl⟩
    unfold usual
    first | rw [if_pos h10] | rw [if_neg (Nat.not_lt.mpr h10)]
  · refine jx_bipush (v := 12) dX6_usualLevel_13 (by decide) ?_
    refine jx_iload_n dX6_usualLevel_15 rfl ?_
    refine jx_isubE (z := nI (12 - ((tick / 4) % 12))) dX6_usualLevel_16 (pk_sub (a := 12) (b := ((tick / 4) % 12)) (by omega)) ?_
    refine jx_goto 21 dX6_usualLevel_17 (by decide) ?_
    refine jx_iret dX6_usualLevel_21 rfl ?_
    refine ⟨?_, rfl⟩
    unfold usual
    first | rw [if_pos h10] | rw [if_neg (Nat.not_lt.mpr h10)]
set_option maxHeartbeats 1000000 in
set_option maxRecDepth 20000 in
theorem tX6_level (hW : jWok w l) (hR : RS R) {r len : Nat} {T : Nat → Nat → Int32} (hr : r = 1013 ∨ r = 1029) (hl : CRl I r T len) (hl7 : len ≤ 700) (hok : wok (T 1082) len) (hos : ∀ k, k < len → okS (T 1082 k)) (hfin : len = 0 ∨ 0 < wdep (T 1082) len) {day tick : Nat} (hd : day ≤ 40) (ht : tick < 96) (wind : Int32) : jRi w l mX6_level 2 [.ref r, .int (nI day), .int (nI tick), .int wind] (n, shE, I, L, R) (fun v t => v = nI (wlev (T 1082) len day tick wind) ∧ ∃ J, t = (n, shE, J, L, R) ∧ eqx [r + 2] I J) := by
  refine jRi_of hW (by decide) rfl (Nat.le_of_ble_eq_true rfl) ?_
  obtain ⟨hln, hcd⟩ := hl
  have key : ∀ k, k ≤ len → len ≠ 0 → ∀ (J : Nat → Nat → Int32) (m : Nat), m = (wrun day tick wind (T 1082) k).length → stk (J (r + 2)) (wrun day tick wind (T 1082) k) → eqx [r + 2] I J → jWP w l mX6_level 2 0 0 (fun v t => ∃ r0, v = some (.int r0) ∧ (r0 = nI (wlev (T 1082) len day tick wind) ∧ ∃ J, t = (n, shE, J, L, R) ∧ eqx [r + 2] I J)) (fun _ _ => False) 18 [(0, .ref r), (1, .int (nI day)), (2, .int (nI tick)), (3, .int wind), (4, .int (nI m)), (5, .int (nI k))] [] (n, shE, J, L, R) := by
    refine jdown _ (fun k hk ih => ?_)
    intro hne J m hm hs he
    have hwl := wrun_len hok day tick wind k hk
    have hdl := wdep_le hok k hk
    have eL : J r 2 = nI len := (he r 2 (by rcases hr with rfl | rfl <;> decide)).trans hln
    have eC : ∀ j, J (r + 1) j = I (r + 1) j := fun j => he (r + 1) j (by rcases hr with rfl | rfl <;> decide)
    rcases hr with rfl | rfl
    all_goals
    refine jx_iload dX6_level_18 rfl ?_
    refine jx_aload_n dX6_level_20 rfl ?_
    refine jx_getIE dX6_level_21 flX6_18 rfl rfl (eL) ?_
    refine jx_icmpN_ge (a := k) (b := len) 181 dX6_level_24 (by decide) (by omega) (by omega) (fun h24 => ?_) (fun h24 => ?_)
    · refine jx_iconst (v := 0) dX6_level_181 (by decide) ?_
      refine jx_bipush (v := 20) dX6_level_182 (by decide) ?_
      refine jx_aload_n dX6_level_184 rfl ?_
      refine jx_getR dX6_level_185 flX6_15 rfl rfl (hR _ _ _ rfl) ?_
      refine jx_iconst (v := 0) dX6_level_188 (by decide) ?_
      refine jx_ialdN (0) dX6_level_189 rfl (rfl) (by omega) (by omega) ?_
      refine jx_Si (as := [.int _, .int _]) dX6_level_190 mlX6_34 okJ9_min_7cf53 stJ9_min_7cf53 rfl rfl (by decide) (Nat.le_of_ble_eq_true rfl) (tJ9_min_7cf53 hW _ _ _) ?_
      refine jx_Si (as := [.int _, .int _]) dX6_level_193 mlX6_40 okJ9_max_7cf53 stJ9_max_7cf53 rfl rfl (by decide) (Nat.le_of_ble_eq_true rfl) (tJ9_max_7cf53 hW _ _ _) ?_
      refine jx_iret dX6_level_196 rfl ?_
      have : k = len := by omega
      subst this
      refine ⟨_, rfl, ?_, J, rfl, he⟩
      rw [wclamp_eq]
      unfold wlev
      rw [if_neg hne, stk_0 hs (fun q => by rw [q] at hwl; simp at hwl; omega)]
    · have h24 : k < len := by omega
      have hk1 := hok k h24
      refine jx_iload dX6_level_27 rfl ?_
      refine jx_aload_n dX6_level_29 rfl ?_
      refine jx_getR dX6_level_30 flX6_9 rfl rfl (hR _ _ _ rfl) ?_
      refine jx_alen dX6_level_33 rfl (by decide) (by decide) ?_
      refine jx_icmpN_ge (a := k) (b := 700) 181 dX6_level_34 (by decide) (by omega) (by omega) (fun h34 => ?_) (fun h34 => ?_)
      · exact absurd h34 (by omega)
      · refine jx_aload_n dX6_level_37 rfl ?_
        refine jx_getR dX6_level_38 flX6_9 rfl rfl (hR _ _ _ rfl) ?_
        refine jx_iload dX6_level_41 rfl ?_
        refine jx_ialdE (k) dX6_level_43 rfl (rfl) (by omega) (by omega) ((eC k).trans (hcd k h24)) ?_
        refine jx_istore dX6_level_44 (by decide) ?_
        refine jx_iload dX6_level_46 rfl ?_
        refine jx_bipush (v := -4) dX6_level_48 (by decide) ?_
        refine jx_icmp_lt 94 dX6_level_50 (by decide) (fun h50 => ?_) (fun h50 => ?_)
        · obtain ⟨ho1, ho2, ho3⟩ := opc_c (hos k h24) h50
          rw [if_neg ho1] at hk1
          refine jx_iload dX6_level_94 rfl ?_
          refine jx_bipush (v := -7) dX6_level_96 (by decide) ?_
          refine jx_icmp_ne 136 dX6_level_98 (by decide) (fun h98 => ?_) (fun h98 => ?_)
          · rw [if_neg (fun q => h98 (ho2.mpr q))] at hk1
            obtain ⟨y, x, r, hrr⟩ : ∃ y x r, wrun day tick wind (T 1082) k = y :: x :: r := by
              cases hc : wrun day tick wind (T 1082) k with
              | nil => rw [hc] at hwl; simp at hwl; omega
              | cons y r => cases r with
                | nil => rw [hc] at hwl; simp at hwl; omega
                | cons x r => exact ⟨y, x, r, rfl⟩
            have hrm : m = r.length + 2 := by rw [hm, hrr]; rfl
            rw [hrr] at hs
            refine jx_iload dX6_level_136 rfl ?_
            refine jx_iconst (v := 2) dX6_level_138 (by decide) ?_
            refine jx_icmpN_lt (a := m) (b := 2) 175 dX6_level_139 (by decide) (by omega) (by omega) (fun h139 => ?_) (fun h139 => ?_)
            · exact absurd h139 (by omega)
            · refine jx_iinc dX6_level_142 rfl (v := nI (m - 1)) (nI_m1 (by omega)) (by decide) ?_
              refine jx_aload_n dX6_level_145 rfl ?_
              refine jx_getR dX6_level_146 flX6_15 rfl rfl (hR _ _ _ rfl) ?_
              refine jx_iload dX6_level_149 rfl ?_
              refine jx_iconst (v := 1) dX6_level_151 (by decide) ?_
              refine jx_isubE (z := nI ((m - 1) - 1)) dX6_level_152 (pk_sub (a := (m - 1)) (b := 1) (by omega)) ?_
              refine jx_iload dX6_level_153 rfl ?_
              refine jx_aload_n dX6_level_155 rfl ?_
              refine jx_getR dX6_level_156 flX6_15 rfl rfl (hR _ _ _ rfl) ?_
              refine jx_iload dX6_level_159 rfl ?_
              refine jx_iconst (v := 1) dX6_level_161 (by decide) ?_
              refine jx_isubE (z := nI ((m - 1) - 1)) dX6_level_162 (pk_sub (a := (m - 1)) (b := 1) (by omega)) ?_
              refine jx_ialdE ((m - 1) - 1) dX6_level_163 rfl (rfl) (by omega) (by omega) ((congrArg (J _) (by omega : m - 1 - 1 = r.length)).trans hs.2.1) ?_
              refine jx_aload_n dX6_level_164 rfl ?_
              refine jx_getR dX6_level_165 flX6_15 rfl rfl (hR _ _ _ rfl) ?_
              refine jx_iload dX6_level_168 rfl ?_
              refine jx_ialdE (m - 1) dX6_level_170 rfl (rfl) (by omega) (by omega) ((congrArg (J _) (show m - 1 = (x :: r).length by rw [hrm]; rfl)).trans hs.1) ?_
              refine jx_Si (as := [.int _, .int _, .int _]) dX6_level_171 mlX6_30 okX6_joined stX6_joined rfl rfl (by decide) (Nat.le_of_ble_eq_true rfl) (tX6_joined hW _ _ _ _) ?_
              rw [ho3 h98]
              refine jx_iastN ((m - 1) - 1) dX6_level_174 rfl (rfl) (by omega) (by omega) ?_
              refine jx_iinc dX6_level_175 rfl (v := nI (k + 1)) (nI_1 _) (by decide) ?_
              refine jx_goto 18 dX6_level_178 (by decide) ?_
              have e : wrun day tick wind (T 1082) (k + 1) = wop (T 1082 k) x y :: r := by show wst _ _ _ _ _ = _; unfold wst; rw [if_neg ho1, if_neg (fun q => h98 (ho2.mpr q)), hrr]
              exact jx_ls (by exact ⟨rfl, rfl, rfl, rfl, rfl, rfl, trivial⟩) (ih h24 hne _ _ (by rw [e, hrm]; rfl) (by rw [e]; exact ⟨by rw [show r.length = m - 1 - 1 by omega, upI_s], stk_up hs.2.2 (by omega)⟩) (eqx_u he (by decide)))
          · have h98s := ho2.mp h98
            rw [if_pos h98s] at hk1
            obtain ⟨x, r, hrr⟩ : ∃ x r, wrun day tick wind (T 1082) k = x :: r := by
              cases hc : wrun day tick wind (T 1082) k with
              | nil => rw [hc] at hwl; simp at hwl; omega
              | cons x r => exact ⟨x, r, rfl⟩
            have hrm : m = r.length + 1 := by rw [hm, hrr]; rfl
            rw [hrr] at hs
            refine jx_iload dX6_level_101 rfl ?_
            refine jx_iconst (v := 1) dX6_level_103 (by decide) ?_
            refine jx_icmpN_lt (a := m) (b := 1) 175 dX6_level_104 (by decide) (by omega) (by omega) (fun h104 => ?_) (fun h104 => ?_)
            · exact absurd h104 (by omega)
            · refine jx_aload_n dX6_level_107 rfl ?_
              refine jx_getR dX6_level_108 flX6_15 rfl rfl (hR _ _ _ rfl) ?_
              refine jx_iload dX6_level_111 rfl ?_
              refine jx_iconst (v := 1) dX6_level_113 (by decide) ?_
              refine jx_isubE (z := nI (m - 1)) dX6_level_114 (pk_sub (a := m) (b := 1) (by omega)) ?_
              refine jx_aload_n dX6_level_115 rfl ?_
              refine jx_getR dX6_level_116 flX6_15 rfl rfl (hR _ _ _ rfl) ?_
              refine jx_iload dX6_level_119 rfl ?_
              refine jx_iconst (v := 1) dX6_level_121 (by decide) ?_
              refine jx_isubE (z := nI (m - 1)) dX6_level_122 (pk_sub (a := m) (b := 1) (by omega)) ?_
              refine jx_ialdE (m - 1) dX6_level_123 rfl (rfl) (by omega) (by omega) ((congrArg (J _) (by omega : m - 1 = r.length)).trans hs.1) ?_
              refine jx_if_ne 131 dX6_level_124 (by decide) (fun h124 => ?_) (fun h124 => ?_)
              · refine jx_iconst (v := 0) dX6_level_131 (by decide) ?_
                refine jx_iastN (m - 1) dX6_level_132 rfl (rfl) (by omega) (by omega) ?_
                refine jx_goto 175 dX6_level_133 (by decide) ?_
                refine jx_iinc dX6_level_175 rfl (v := nI (k + 1)) (nI_1 _) (by decide) ?_
                refine jx_goto 18 dX6_level_178 (by decide) ?_
                have e : wrun day tick wind (T 1082) (k + 1) = (if x = 0 then 1 else 0) :: r := by show wst _ _ _ _ _ = _; unfold wst; rw [if_neg ho1, if_pos h98s, hrr]
                exact jx_ls (by exact ⟨rfl, rfl, rfl, rfl, rfl, rfl, trivial⟩) (ih h24 hne _ _ (by rw [e, hrm]; rfl) (by rw [e]; exact ⟨by rw [show r.length = m - 1 by omega, upI_s]; simp [h124], stk_up hs.2 (by omega)⟩) (eqx_u he (by decide)))
              · refine jx_iconst (v := 1) dX6_level_127 (by decide) ?_
                refine jx_goto 132 dX6_level_128 (by decide) ?_
                refine jx_iastN (m - 1) dX6_level_132 rfl (rfl) (by omega) (by omega) ?_
                refine jx_goto 175 dX6_level_133 (by decide) ?_
                refine jx_iinc dX6_level_175 rfl (v := nI (k + 1)) (nI_1 _) (by decide) ?_
                refine jx_goto 18 dX6_level_178 (by decide) ?_
                have e : wrun day tick wind (T 1082) (k + 1) = (if x = 0 then 1 else 0) :: r := by show wst _ _ _ _ _ = _; unfold wst; rw [if_neg ho1, if_pos h98s, hrr]
                exact jx_ls (by exact ⟨rfl, rfl, rfl, rfl, rfl, rfl, trivial⟩) (ih h24 hne _ _ (by rw [e, hrm]; rfl) (by rw [e]; exact ⟨by rw [show r.length = m - 1 by omega, upI_s]; simp [h124], stk_up hs.2 (by omega)⟩) (eqx_u he (by decide)))
        · have h4 := opc_b (hos k h24) h50
          have hoe := opc_a h4
          rw [if_pos hoe.2] at hk1
          rw [hoe.1]
          refine jx_iload dX6_level_53 rfl ?_
          refine jx_aload_n dX6_level_55 rfl ?_
          refine jx_getR dX6_level_56 flX6_15 rfl rfl (hR _ _ _ rfl) ?_
          refine jx_alen dX6_level_59 rfl (by decide) (by decide) ?_
          refine jx_icmpN_ge (a := m) (b := 64) 175 dX6_level_60 (by decide) (by omega) (by omega) (fun h60 => ?_) (fun h60 => ?_)
          · exact absurd h60 (by omega)
          · refine jx_aload_n dX6_level_63 rfl ?_
            refine jx_getR dX6_level_64 flX6_15 rfl rfl (hR _ _ _ rfl) ?_
            refine jx_iload dX6_level_67 rfl ?_
            refine jx_iload dX6_level_69 rfl ?_
            refine jx_if_lt 79 dX6_level_71 (by decide) (fun h71 => ?_) (fun h71 => ?_)
            · refine jx_iload dX6_level_79 rfl ?_
              refine jx_iload_n dX6_level_81 rfl ?_
              refine jx_iload_n dX6_level_82 rfl ?_
              refine jx_iload_n dX6_level_83 rfl ?_
              refine jx_Si (as := [.int _, .int _, .int _, .int _]) dX6_level_84 mlX6_26 okX6_valueOf stX6_valueOf rfl rfl (by decide) (Nat.le_of_ble_eq_true rfl) (tX6_valueOf hW h4 h71 hd ht wind _) ?_
              refine jx_iastN (m) dX6_level_87 rfl (rfl) (by omega) (by omega) ?_
              refine jx_iinc dX6_level_88 rfl (v := nI (m + 1)) (nI_1 _) (by decide) ?_
              refine jx_goto 175 dX6_level_91 (by decide) ?_
              refine jx_iinc dX6_level_175 rfl (v := nI (k + 1)) (nI_1 _) (by decide) ?_
              refine jx_goto 18 dX6_level_178 (by decide) ?_
              have e : wrun day tick wind (T 1082) (k + 1) = wenv day tick wind (T 1082 k) :: wrun day tick wind (T 1082) k := by show wst _ _ _ _ _ = _; unfold wst; rw [if_pos hoe.2]
              exact jx_ls (by exact ⟨rfl, rfl, rfl, rfl, rfl, rfl, trivial⟩) (ih h24 hne _ _ (by rw [e, hm]; rfl) (by rw [e]; exact ⟨by rw [← hm]; exact upI_s, stk_up hs (by omega)⟩) (eqx_u he (by decide)))
            · have hev : T 1082 k = wenv day tick wind (T 1082 k) := by unfold wenv; rw [if_pos (Int32.not_lt.mp h71)]
              rw [hev]
              refine jx_iload dX6_level_74 rfl ?_
              refine jx_goto 87 dX6_level_76 (by decide) ?_
              refine jx_iastN (m) dX6_level_87 rfl (rfl) (by omega) (by omega) ?_
              refine jx_iinc dX6_level_88 rfl (v := nI (m + 1)) (nI_1 _) (by decide) ?_
              refine jx_goto 175 dX6_level_91 (by decide) ?_
              refine jx_iinc dX6_level_175 rfl (v := nI (k + 1)) (nI_1 _) (by decide) ?_
              refine jx_goto 18 dX6_level_178 (by decide) ?_
              have e : wrun day tick wind (T 1082) (k + 1) = wenv day tick wind (T 1082 k) :: wrun day tick wind (T 1082) k := by show wst _ _ _ _ _ = _; unfold wst; rw [if_pos hoe.2]
              exact jx_ls (by exact ⟨rfl, rfl, rfl, rfl, rfl, rfl, trivial⟩) (ih h24 hne _ _ (by rw [e, hm]; rfl) (by rw [e]; exact ⟨by rw [← hm]; exact upI_s, stk_up hs (by omega)⟩) (eqx_u he (by decide)))
  rcases hr with rfl | rfl
  all_goals
    refine jx_aload_n dX6_level_0 rfl ?_
    refine jx_getIE dX6_level_1 flX6_18 rfl rfl (hln) ?_
    refine jx_ifN_ne (a := len) 12 dX6_level_4 (by decide) (by omega) (fun h4 => ?_) (fun h4 => ?_)
    · refine jx_iconst (v := 0) dX6_level_12 (by decide) ?_
      refine jx_istore dX6_level_13 (by decide) ?_
      refine jx_iconst (v := 0) dX6_level_15 (by decide) ?_
      refine jx_istore dX6_level_16 (by decide) ?_
      exact jx_ls (by exact ⟨rfl, rfl, rfl, rfl, rfl, rfl, trivial⟩) (key 0 (by omega) h4 I 0 rfl trivial (eqx_r _ _))
    · refine jx_iload_n dX6_level_7 rfl ?_
      refine jx_Si (as := [.int _]) dX6_level_8 mlX6_22 okX6_usualLevel stX6_usualLevel rfl rfl (by decide) (Nat.le_of_ble_eq_true rfl) (tX6_usualLevel hW ht _) ?_
      refine jx_iret dX6_level_11 rfl ?_
      refine ⟨_, rfl, ?_, I, rfl, eqx_r _ _⟩
      unfold wlev
      rw [if_pos h4]
end CC
