/-! THE REFERENCE: an island is begun, taken over; bytes are fed -/
def tovH (I : Nat → Nat → Int32) : Nat → Nat → Int32 := upI (upI (upI (upI (upI (fl (fl (fl (fl (fl (fl (fl (fl (fl (fl (fl (I) 1072 (fun j => I 1072 (17 + j)) 17) 1073 (fun j => I 1073 (63 + j)) 63) 1074 (fun j => I 1074 (63 + j)) 63) 1075 (fun j => I 1075 (12 + j)) 12) 1076 (fun j => I 1076 (6 + j)) 6) 1077 (fun j => I 1077 (6 + j)) 6) 1078 (fun j => I 1078 (6 + j)) 6) 1079 (fun j => I 1079 (6 + j)) 6) 1080 (fun j => I 1080 (6 + j)) 6) 1081 (fun j => I 1081 (6 + j)) 6) 1082 (fun j => I 1082 (700 + j)) 700) 1069 32 0) 1069 33 0) 1069 38 (-1)) 1069 49 0) 1069 55 0
def b1H (I : Nat → Nat → Int32) : Nat → Nat → Int32 := upI (upI (upI (upI (upI (flo I 1072 17 (fun _ => 0) 17) 1072 17 6) 1072 18 4) 1072 25 2) 1072 26 9) 1072 29 1
def b2H (I : Nat → Nat → Int32) (c : Nat) : Nat → Nat → Int32 := fl (flo (flo (b1H I) 1073 63 (fun _ => 4) c) 1074 63 (fun _ => 0) c) 1084 (fun _ => 0) c
/-- the half that is being read, as it begins -/
def begH (I : Nat → Nat → Int32) : Nat → Nat → Int32 := b2H I 63
theorem flo_up {I : Nat → Nat → Int32} {a off k a2 k2 : Nat} {f : Nat → Int32} {v : Int32} (h : a2 ≠ a) : upI (flo I a off f k) a2 k2 v = flo (upI I a2 k2 v) a off f k := by
  funext b j
  show (if b = a2 ∧ j = k2 then v else (if b = a ∧ off ≤ j ∧ j < off + k then f (j - off) else I b j)) = (if b = a ∧ off ≤ j ∧ j < off + k then f (j - off) else (if b = a2 ∧ j = k2 then v else I b j))
  by_cases e1 : b = a2 ∧ j = k2
  · rw [if_pos e1, if_neg (fun q => h (e1.1.symm.trans q.1)), if_pos e1]
  · rw [if_neg e1, if_neg e1]
theorem fl_up {I : Nat → Nat → Int32} {a k a2 k2 : Nat} {f : Nat → Int32} {v : Int32} (h : a2 ≠ a) : upI (fl I a f k) a2 k2 v = fl (upI I a2 k2 v) a f k := by
  funext b j
  show (if b = a2 ∧ j = k2 then v else (if b = a ∧ j < k then f j else I b j)) = (if b = a ∧ j < k then f j else (if b = a2 ∧ j = k2 then v else I b j))
  by_cases e1 : b = a2 ∧ j = k2
  · rw [if_pos e1, if_neg (fun q => h (e1.1.symm.trans q.1)), if_pos e1]
  · rw [if_neg e1, if_neg e1]
theorem b2H_s (I : Nat → Nat → Int32) (c : Nat) : upI (upI (upI (b2H I c) 1073 (63 + c) 4) 1074 (63 + c) 0) 1084 c 0 = b2H I (c + 1) := by
  unfold b2H
  rw [fl_up (by decide), flo_up (by decide), flo_s (b1H I) 1073 63 (fun _ => 4) c, fl_up (by decide), flo_s _ 1074 63 (fun _ => 0) c, fl_s _ 1084 (fun _ => 0) c]
theorem b2H_0 (I : Nat → Nat → Int32) : b2H I 0 = b1H I := by
  unfold b2H
  rw [flo_0, flo_0, fl_0]
def wdQ (a b c d e : Int32) (k : Nat) : Int32 := if k < 4 then a else if k < 8 then b else if k < 12 then c else if k < 16 then d else e
def fedB (a b c d e : Int32) (k : Nat) : Int32 := (wdQ a b c d e k >>> (nI (24 - 8 * (k % 4)) &&& 31)) &&& 255
section RY
variable {w : jWD} {l : Launch} {n : Nat} {I J : Nat → Nat → Int32} {L : Nat → Nat → Int64} {R : Nat → Nat → Option Nat}

set_option maxHeartbeats 1000000 in
set_option maxRecDepth 20000 in
theorem tX11_takeOver (hW : jWok w l) (hR : RS R) : jCD w l mX11_takeOver 2 [.ref 1069] (n, shE, I, L, R) none (n, shE, tovH I, L, R) := by
  refine jCD_of hW (by decide) rfl (Nat.le_of_ble_eq_true rfl) ?_
  refine jx_aload_n dX11_takeOver_0 rfl ?_
  refine jx_getR dX11_takeOver_1 flX11_34 rfl rfl (hR _ _ _ rfl) ?_
  refine jx_Sv (as := [.ref _]) dX11_takeOver_4 mlX11_359 okX11_takeHalf stX11_takeHalf rfl rfl (by decide) (Nat.le_of_ble_eq_true rfl) (tX11_takeHalf (h := 17) hW rfl (by omega)) ?_
  refine jx_aload_n dX11_takeOver_7 rfl ?_
  refine jx_getR dX11_takeOver_8 flX11_38 rfl rfl (hR _ _ _ rfl) ?_
  refine jx_Sv (as := [.ref _]) dX11_takeOver_11 mlX11_359 okX11_takeHalf stX11_takeHalf rfl rfl (by decide) (Nat.le_of_ble_eq_true rfl) (tX11_takeHalf (h := 63) hW rfl (by omega)) ?_
  refine jx_aload_n dX11_takeOver_14 rfl ?_
  refine jx_getR dX11_takeOver_15 flX11_41 rfl rfl (hR _ _ _ rfl) ?_
  refine jx_Sv (as := [.ref _]) dX11_takeOver_18 mlX11_359 okX11_takeHalf stX11_takeHalf rfl rfl (by decide) (Nat.le_of_ble_eq_true rfl) (tX11_takeHalf (h := 63) hW rfl (by omega)) ?_
  refine jx_aload_n dX11_takeOver_21 rfl ?_
  refine jx_getR dX11_takeOver_22 flX11_44 rfl rfl (hR _ _ _ rfl) ?_
  refine jx_Sv (as := [.ref _]) dX11_takeOver_25 mlX11_359 okX11_takeHalf stX11_takeHalf rfl rfl (by decide) (Nat.le_of_ble_eq_true rfl) (tX11_takeHalf (h := 12) hW rfl (by omega)) ?_
  refine jx_aload_n dX11_takeOver_28 rfl ?_
  refine jx_getR dX11_takeOver_29 flX11_47 rfl rfl (hR _ _ _ rfl) ?_
  refine jx_Sv (as := [.ref _]) dX11_takeOver_32 mlX11_359 okX11_takeHalf stX11_takeHalf rfl rfl (by decide) (Nat.le_of_ble_eq_true rfl) (tX11_takeHalf (h := 6) hW rfl (by omega)) ?_
  refine jx_aload_n dX11_takeOver_35 rfl ?_
  refine jx_getR dX11_takeOver_36 flX11_50 rfl rfl (hR _ _ _ rfl) ?_
  refine jx_Sv (as := [.ref _]) dX11_takeOver_39 mlX11_359 okX11_takeHalf stX11_takeHalf rfl rfl (by decide) (Nat.le_of_ble_eq_true rfl) (tX11_takeHalf (h := 6) hW rfl (by omega)) ?_
  refine jx_aload_n dX11_takeOver_42 rfl ?_
  refine jx_getR dX11_takeOver_43 flX11_53 rfl rfl (hR _ _ _ rfl) ?_
  refine jx_Sv (as := [.ref _]) dX11_takeOver_46 mlX11_359 okX11_takeHalf stX11_takeHalf rfl rfl (by decide) (Nat.le_of_ble_eq_true rfl) (tX11_takeHalf (h := 6) hW rfl (by omega)) ?_
  refine jx_aload_n dX11_takeOver_49 rfl ?_
  refine jx_getR dX11_takeOver_50 flX11_56 rfl rfl (hR _ _ _ rfl) ?_
  refine jx_Sv (as := [.ref _]) dX11_takeOver_53 mlX11_359 okX11_takeHalf stX11_takeHalf rfl rfl (by decide) (Nat.le_of_ble_eq_true rfl) (tX11_takeHalf (h := 6) hW rfl (by omega)) ?_
  refine jx_aload_n dX11_takeOver_56 rfl ?_
  refine jx_getR dX11_takeOver_57 flX11_59 rfl rfl (hR _ _ _ rfl) ?_
  refine jx_Sv (as := [.ref _]) dX11_takeOver_60 mlX11_359 okX11_takeHalf stX11_takeHalf rfl rfl (by decide) (Nat.le_of_ble_eq_true rfl) (tX11_takeHalf (h := 6) hW rfl (by omega)) ?_
  refine jx_aload_n dX11_takeOver_63 rfl ?_
  refine jx_getR dX11_takeOver_64 flX11_62 rfl rfl (hR _ _ _ rfl) ?_
  refine jx_Sv (as := [.ref _]) dX11_takeOver_67 mlX11_359 okX11_takeHalf stX11_takeHalf rfl rfl (by decide) (Nat.le_of_ble_eq_true rfl) (tX11_takeHalf (h := 6) hW rfl (by omega)) ?_
  refine jx_aload_n dX11_takeOver_70 rfl ?_
  refine jx_getR dX11_takeOver_71 flX11_65 rfl rfl (hR _ _ _ rfl) ?_
  refine jx_Sv (as := [.ref _]) dX11_takeOver_74 mlX11_359 okX11_takeHalf stX11_takeHalf rfl rfl (by decide) (Nat.le_of_ble_eq_true rfl) (tX11_takeHalf (h := 700) hW rfl (by omega)) ?_
  refine jx_aload_n dX11_takeOver_77 rfl ?_
  refine jx_iconst (v := 0) dX11_takeOver_78 (by decide) ?_
  refine jx_putI dX11_takeOver_79 flX11_363 rfl rfl (fun r h => by cases h; rfl) ?_
  refine jx_aload_n dX11_takeOver_82 rfl ?_
  refine jx_iconst (v := 0) dX11_takeOver_83 (by decide) ?_
  refine jx_putI dX11_takeOver_84 flX11_366 rfl rfl (fun r h => by cases h; rfl) ?_
  refine jx_aload_n dX11_takeOver_87 rfl ?_
  refine jx_iconst (v := -1) dX11_takeOver_88 (by decide) ?_
  refine jx_putI dX11_takeOver_89 flX11_106 rfl rfl (fun r h => by cases h; rfl) ?_
  refine jx_aload_n dX11_takeOver_92 rfl ?_
  refine jx_iconst (v := 0) dX11_takeOver_93 (by decide) ?_
  refine jx_putZ dX11_takeOver_94 flX11_369 rfl rfl (fun r h => by cases h; rfl) (by first | exact Or.inl rfl | exact Or.inr rfl | exact jb_or _) ?_
  refine jx_aload_n dX11_takeOver_97 rfl ?_
  refine jx_iconst (v := 0) dX11_takeOver_98 (by decide) ?_
  refine jx_putZ dX11_takeOver_99 flX11_373 rfl rfl (fun r h => by cases h; rfl) (by first | exact Or.inl rfl | exact Or.inr rfl | exact jb_or _) ?_
  refine jx_vret dX11_takeOver_102 rfl ?_
  exact ⟨rfl, rfl⟩
set_option maxHeartbeats 1000000 in
set_option maxRecDepth 20000 in
theorem tX11_begin (hW : jWok w l) (hR : RS R) : jCD w l mX11_begin 2 [.ref 1069] (n, shE, I, L, R) none (n, shE, begH I, L, R) := by
  refine jCD_of hW (by decide) rfl (Nat.le_of_ble_eq_true rfl) ?_
  have key68 : ∀ c, c ≤ 63 → jWP w l mX11_begin 2 0 0 (fun r t => r = none ∧ t = (n, shE, begH I, L, R)) (fun _ _ => False) 68 [(0, .ref 1069), (1, .int (nI c))] [] (n, shE, b2H I c, L, R) := by
    refine jdown _ (fun c hc ih => ?_)
    refine jx_iload_n dX11_begin_68 rfl ?_
    refine jx_bipush (v := 63) dX11_begin_69 (by decide) ?_
    refine jx_icmpN_ge (a := c) (b := 63) 107 dX11_begin_71 (by decide) (by omega) (by omega) (fun h71 => ?_) (fun h71 => ?_)
    · refine jx_vret dX11_begin_107 rfl ?_
      have h63 : c = 63 := by omega
      subst h63
      exact ⟨rfl, rfl⟩
    · refine jx_aload_n dX11_begin_74 rfl ?_
      refine jx_getR dX11_begin_75 flX11_38 rfl rfl (hR _ _ _ rfl) ?_
      refine jx_bipush (v := 63) dX11_begin_78 (by decide) ?_
      refine jx_iload_n dX11_begin_80 rfl ?_
      refine jx_iaddE (z := nI (63 + c)) dX11_begin_81 (nI_add 63 c) ?_
      refine jx_iconst (v := 4) dX11_begin_82 (by decide) ?_
      refine jx_iastN (63 + c) dX11_begin_83 rfl (rfl) (by omega) (by omega) ?_
      refine jx_aload_n dX11_begin_84 rfl ?_
      refine jx_getR dX11_begin_85 flX11_41 rfl rfl (hR _ _ _ rfl) ?_
      refine jx_bipush (v := 63) dX11_begin_88 (by decide) ?_
      refine jx_iload_n dX11_begin_90 rfl ?_
      refine jx_iaddE (z := nI (63 + c)) dX11_begin_91 (nI_add 63 c) ?_
      refine jx_iconst (v := 0) dX11_begin_92 (by decide) ?_
      refine jx_iastN (63 + c) dX11_begin_93 rfl (rfl) (by omega) (by omega) ?_
      refine jx_aload_n dX11_begin_94 rfl ?_
      refine jx_getR dX11_begin_95 flX11_71 rfl rfl (hR _ _ _ rfl) ?_
      refine jx_iload_n dX11_begin_98 rfl ?_
      refine jx_iconst (v := 0) dX11_begin_99 (by decide) ?_
      refine jx_zastN (c) dX11_begin_100 rfl (rfl) (by omega) (by omega) ?_
      refine jx_iinc dX11_begin_101 rfl (v := nI (c + 1)) (nI_1 _) (by decide) ?_
      refine jx_goto 68 dX11_begin_104 (by decide) ?_
      rw [show ((0 : Int32) &&& 1) = 0 by decide, b2H_s]
      exact jx_ls (by exact ⟨rfl, rfl, trivial⟩) (ih h71)
  have key2 : ∀ k, k ≤ 17 → jWP w l mX11_begin 2 0 0 (fun r t => r = none ∧ t = (n, shE, begH I, L, R)) (fun _ _ => False) 2 [(0, .ref 1069), (1, .int (nI k))] [] (n, shE, flo I 1072 17 (fun _ => 0) k, L, R) := by
    refine jdown _ (fun k hk ih => ?_)
    refine jx_iload_n dX11_begin_2 rfl ?_
    refine jx_bipush (v := 17) dX11_begin_3 (by decide) ?_
    refine jx_icmpN_ge (a := k) (b := 17) 24 dX11_begin_5 (by decide) (by omega) (by omega) (fun h5 => ?_) (fun h5 => ?_)
    · refine jx_aload_n dX11_begin_24 rfl ?_
      refine jx_getR dX11_begin_25 flX11_34 rfl rfl (hR _ _ _ rfl) ?_
      refine jx_bipush (v := 17) dX11_begin_28 (by decide) ?_
      refine jx_bipush (v := 6) dX11_begin_30 (by decide) ?_
      refine jx_iastN (17) dX11_begin_32 rfl (rfl) (by omega) (by omega) ?_
      refine jx_aload_n dX11_begin_33 rfl ?_
      refine jx_getR dX11_begin_34 flX11_34 rfl rfl (hR _ _ _ rfl) ?_
      refine jx_bipush (v := 18) dX11_begin_37 (by decide) ?_
      refine jx_iconst (v := 4) dX11_begin_39 (by decide) ?_
      refine jx_iastN (18) dX11_begin_40 rfl (rfl) (by omega) (by omega) ?_
      refine jx_aload_n dX11_begin_41 rfl ?_
      refine jx_getR dX11_begin_42 flX11_34 rfl rfl (hR _ _ _ rfl) ?_
      refine jx_bipush (v := 25) dX11_begin_45 (by decide) ?_
      refine jx_iconst (v := 2) dX11_begin_47 (by decide) ?_
      refine jx_iastN (25) dX11_begin_48 rfl (rfl) (by omega) (by omega) ?_
      refine jx_aload_n dX11_begin_49 rfl ?_
      refine jx_getR dX11_begin_50 flX11_34 rfl rfl (hR _ _ _ rfl) ?_
      refine jx_bipush (v := 26) dX11_begin_53 (by decide) ?_
      refine jx_bipush (v := 9) dX11_begin_55 (by decide) ?_
      refine jx_iastN (26) dX11_begin_57 rfl (rfl) (by omega) (by omega) ?_
      refine jx_aload_n dX11_begin_58 rfl ?_
      refine jx_getR dX11_begin_59 flX11_34 rfl rfl (hR _ _ _ rfl) ?_
      refine jx_bipush (v := 29) dX11_begin_62 (by decide) ?_
      refine jx_iconst (v := 1) dX11_begin_64 (by decide) ?_
      refine jx_iastN (29) dX11_begin_65 rfl (rfl) (by omega) (by omega) ?_
      refine jx_iconst (v := 0) dX11_begin_66 (by decide) ?_
      refine jx_istore_n dX11_begin_67 rfl (by decide) ?_
      have h17 : k = 17 := by omega
      subst h17
      have kk := key68 0 (by omega)
      rw [b2H_0] at kk
      exact jx_ls (by exact ⟨rfl, rfl, trivial⟩) kk
    · refine jx_aload_n dX11_begin_8 rfl ?_
      refine jx_getR dX11_begin_9 flX11_34 rfl rfl (hR _ _ _ rfl) ?_
      refine jx_bipush (v := 17) dX11_begin_12 (by decide) ?_
      refine jx_iload_n dX11_begin_14 rfl ?_
      refine jx_iaddE (z := nI (17 + k)) dX11_begin_15 (nI_add 17 k) ?_
      refine jx_iconst (v := 0) dX11_begin_16 (by decide) ?_
      refine jx_iastN (17 + k) dX11_begin_17 rfl (rfl) (by omega) (by omega) ?_
      refine jx_iinc dX11_begin_18 rfl (v := nI (k + 1)) (nI_1 _) (by decide) ?_
      refine jx_goto 2 dX11_begin_21 (by decide) ?_
      rw [flo_s I 1072 17 (fun _ => 0) k]
      exact jx_ls (by exact ⟨rfl, rfl, trivial⟩) (ih h5)
  have kk := key2 0 (by omega)
  rw [flo_0] at kk
  refine jx_iconst (v := 0) dX11_begin_0 (by decide) ?_
  refine jx_istore_n dX11_begin_1 rfl (by decide) ?_
  exact jx_ls (by exact ⟨rfl, rfl, trivial⟩) kk
set_option maxHeartbeats 1000000 in
set_option maxRecDepth 20000 in
theorem tX11_feed (hW : jWok w l) (hR : RS R) {m : Nat} (hm : I 1069 17 = nI m) (hm7 : m ≤ 700) (a b c d e : Int32) : jCD w l mX11_feed 1 [.ref 1069, .int a, .int b, .int c, .int d, .int e] (n, shE, I, L, R) (some (.int (if 700 < m + 20 then -1 else nI (m + 20)))) (n, shE, (if 700 < m + 20 then upI I 1069 2 0 else flo (upI (upI I 1069 2 0) 1069 17 (nI (m + 20))) 1085 m (fedB a b c d e) 20), L, R) := by
  refine jCD_of hW (by decide) rfl (Nat.le_of_ble_eq_true rfl) ?_
  have key : ¬ 700 < m + 20 → ∀ k, k ≤ 20 → jWP w l mX11_feed 1 0 0 (fun r t => r = some (.int (if 700 < m + 20 then -1 else nI (m + 20))) ∧ t = (n, shE, (if 700 < m + 20 then upI I 1069 2 0 else flo (upI (upI I 1069 2 0) 1069 17 (nI (m + 20))) 1085 m (fedB a b c d e) 20), L, R)) (fun _ _ => False) 23 [(0, .ref 1069), (1, .int a), (2, .int b), (3, .int c), (4, .int d), (5, .int e), (6, .int (nI k))] [] (n, shE, flo (upI (upI I 1069 2 0) 1069 17 (nI (m + k))) 1085 m (fedB a b c d e) k, L, R) := by
    intro hmm
    refine jdown _ (fun k hk ih => ?_)
    have key76 : k < 20 → jWP w l mX11_feed 1 0 0 (fun r t => r = some (.int (if 700 < m + 20 then -1 else nI (m + 20))) ∧ t = (n, shE, (if 700 < m + 20 then upI I 1069 2 0 else flo (upI (upI I 1069 2 0) 1069 17 (nI (m + 20))) 1085 m (fedB a b c d e) 20), L, R)) (fun _ _ => False) 76 [(0, .ref 1069), (1, .int a), (2, .int b), (3, .int c), (4, .int d), (5, .int e), (6, .int (nI k))] [.int (wdQ a b c d e k)] (n, shE, flo (upI (upI I 1069 2 0) 1069 17 (nI (m + k))) 1085 m (fedB a b c d e) k, L, R) := by
      intro hk20
      refine jx_istore dX11_feed_76 (by decide) ?_
      refine jx_aload_n dX11_feed_78 rfl ?_
      refine jx_getR dX11_feed_79 flX11_75 rfl rfl (hR _ _ _ rfl) ?_
      refine jx_aload_n dX11_feed_82 rfl ?_
      refine jx_getIE dX11_feed_83 flX11_198 rfl rfl ((flo_ne (by decide)).trans upI_s) ?_
      refine jx_iload dX11_feed_86 rfl ?_
      refine jx_bipush (v := 24) dX11_feed_88 (by decide) ?_
      refine jx_bipush (v := 8) dX11_feed_90 (by decide) ?_
      refine jx_iload dX11_feed_92 rfl ?_
      refine jx_iconst (v := 4) dX11_feed_94 (by decide) ?_
      refine jx_iremE (z := nI (k % 4)) dX11_feed_95 (nI_ne0 (n := 4) (by omega) (by omega)) (pk_rem (a := k) (d := 4) (by omega) (by omega) (by omega)) ?_
      refine jx_imulE (z := nI (8 * (k % 4))) dX11_feed_96 (pk_mul 8 (k % 4)) ?_
      refine jx_isubE (z := nI (24 - (8 * (k % 4)))) dX11_feed_97 (pk_sub (a := 24) (b := (8 * (k % 4))) (by omega)) ?_
      refine jx_ishr dX11_feed_98 ?_
      refine jx_sipush (v := 255) dX11_feed_99 (by decide) ?_
      refine jx_iand dX11_feed_102 ?_
      refine jx_iastN (m + k) dX11_feed_103 rfl (rfl) (by omega) (by omega) ?_
      refine jx_aload_n dX11_feed_104 rfl ?_
      refine jx_dup dX11_feed_105 rfl ?_
      refine jx_getIE dX11_feed_106 flX11_198 rfl rfl ((upI_nea' (by decide)).trans ((flo_ne (by decide)).trans upI_s)) ?_
      refine jx_iconst (v := 1) dX11_feed_109 (by decide) ?_
      refine jx_iaddE (z := nI ((m + k) + 1)) dX11_feed_110 (nI_add (m + k) 1) ?_
      refine jx_putI dX11_feed_111 flX11_198 rfl rfl (fun r h => by cases h; rfl) ?_
      refine jx_iinc dX11_feed_114 rfl (v := nI (k + 1)) (nI_1 _) (by decide) ?_
      refine jx_goto 23 dX11_feed_117 (by decide) ?_
      rw [show upI (flo (upI (upI I 1069 2 0) 1069 17 (nI (m + k))) 1085 m (fedB a b c d e) k) 1085 (m + k) ((wdQ a b c d e k >>> (nI (24 - 8 * (k % 4)) &&& 31)) &&& 255) = flo (upI (upI I 1069 2 0) 1069 17 (nI (m + k))) 1085 m (fedB a b c d e) (k + 1) from flo_s _ 1085 m (fedB a b c d e) k, flo_up (by decide), up_up]
      exact jx_ls (by exact ⟨rfl, rfl, rfl, rfl, rfl, rfl, rfl, trivial⟩) (ih hk20)
    refine jx_iload dX11_feed_23 rfl ?_
    refine jx_bipush (v := 20) dX11_feed_25 (by decide) ?_
    refine jx_icmpN_ge (a := k) (b := 20) 120 dX11_feed_27 (by decide) (by omega) (by omega) (fun h27 => ?_) (fun h27 => ?_)
    · refine jx_aload_n dX11_feed_120 rfl ?_
      refine jx_getIE dX11_feed_121 flX11_198 rfl rfl ((flo_ne (by decide)).trans upI_s) ?_
      refine jx_iret dX11_feed_124 rfl ?_
      have h20 : k = 20 := by omega
      subst h20
      rw [if_neg hmm, if_neg hmm]
      exact ⟨rfl, rfl⟩
    · refine jx_iload dX11_feed_30 rfl ?_
      refine jx_iconst (v := 4) dX11_feed_32 (by decide) ?_
      refine jx_icmpN_ge (a := k) (b := 4) 40 dX11_feed_33 (by decide) (by omega) (by omega) (fun h33 => ?_) (fun h33 => ?_)
      · refine jx_iload dX11_feed_40 rfl ?_
        refine jx_bipush (v := 8) dX11_feed_42 (by decide) ?_
        refine jx_icmpN_ge (a := k) (b := 8) 51 dX11_feed_44 (by decide) (by omega) (by omega) (fun h44 => ?_) (fun h44 => ?_)
        · refine jx_iload dX11_feed_51 rfl ?_
          refine jx_bipush (v := 12) dX11_feed_53 (by decide) ?_
          refine jx_icmpN_ge (a := k) (b := 12) 62 dX11_feed_55 (by decide) (by omega) (by omega) (fun h55 => ?_) (fun h55 => ?_)
          · refine jx_iload dX11_feed_62 rfl ?_
            refine jx_bipush (v := 16) dX11_feed_64 (by decide) ?_
            refine jx_icmpN_ge (a := k) (b := 16) 74 dX11_feed_66 (by decide) (by omega) (by omega) (fun h66 => ?_) (fun h66 => ?_)
            · refine jx_iload dX11_feed_74 rfl ?_
              have kk := key76 h27
              rw [show wdQ a b c d e k = e from by unfold wdQ; first | rw [if_pos h33] | rw [if_neg (by omega), if_pos h44] | rw [if_neg (by omega), if_neg (by omega), if_pos h55] | rw [if_neg (by omega), if_neg (by omega), if_neg (by omega), if_pos h66] | rw [if_neg (by omega), if_neg (by omega), if_neg (by omega), if_neg (by omega)]] at kk
              exact kk
            · refine jx_iload dX11_feed_69 rfl ?_
              refine jx_goto 76 dX11_feed_71 (by decide) ?_
              have kk := key76 h27
              rw [show wdQ a b c d e k = d from by unfold wdQ; first | rw [if_pos h33] | rw [if_neg (by omega), if_pos h44] | rw [if_neg (by omega), if_neg (by omega), if_pos h55] | rw [if_neg (by omega), if_neg (by omega), if_neg (by omega), if_pos h66] | rw [if_neg (by omega), if_neg (by omega), if_neg (by omega), if_neg (by omega)]] at kk
              exact kk
          · refine jx_iload_n dX11_feed_58 rfl ?_
            refine jx_goto 76 dX11_feed_59 (by decide) ?_
            have kk := key76 h27
            rw [show wdQ a b c d e k = c from by unfold wdQ; first | rw [if_pos h33] | rw [if_neg (by omega), if_pos h44] | rw [if_neg (by omega), if_neg (by omega), if_pos h55] | rw [if_neg (by omega), if_neg (by omega), if_neg (by omega), if_pos h66] | rw [if_neg (by omega), if_neg (by omega), if_neg (by omega), if_neg (by omega)]] at kk
            exact kk
        · refine jx_iload_n dX11_feed_47 rfl ?_
          refine jx_goto 76 dX11_feed_48 (by decide) ?_
          have kk := key76 h27
          rw [show wdQ a b c d e k = b from by unfold wdQ; first | rw [if_pos h33] | rw [if_neg (by omega), if_pos h44] | rw [if_neg (by omega), if_neg (by omega), if_pos h55] | rw [if_neg (by omega), if_neg (by omega), if_neg (by omega), if_pos h66] | rw [if_neg (by omega), if_neg (by omega), if_neg (by omega), if_neg (by omega)]] at kk
          exact kk
      · refine jx_iload_n dX11_feed_36 rfl ?_
        refine jx_goto 76 dX11_feed_37 (by decide) ?_
        have kk := key76 h27
        rw [show wdQ a b c d e k = a from by unfold wdQ; first | rw [if_pos h33] | rw [if_neg (by omega), if_pos h44] | rw [if_neg (by omega), if_neg (by omega), if_pos h55] | rw [if_neg (by omega), if_neg (by omega), if_neg (by omega), if_pos h66] | rw [if_neg (by omega), if_neg (by omega), if_neg (by omega), if_neg (by omega)]] at kk
        exact kk
  have e0 : upI (upI I 1069 2 0) 1069 17 (nI (m + 0)) = upI I 1069 2 0 := by
    funext x j
    unfold upI
    by_cases z : x = 1069 ∧ j = 17
    · rw [if_pos z, z.1, z.2, if_neg (by omega), hm]; rfl
    · rw [if_neg z]
  refine jx_aload_n dX11_feed_0 rfl ?_
  refine jx_iconst (v := 0) dX11_feed_1 (by decide) ?_
  refine jx_putI dX11_feed_2 flX11_187 rfl rfl (fun r h => by cases h; rfl) ?_
  refine jx_aload_n dX11_feed_5 rfl ?_
  refine jx_getIE dX11_feed_6 flX11_198 rfl rfl ((upI_j (by decide)).trans hm) ?_
  refine jx_bipush (v := 20) dX11_feed_9 (by decide) ?_
  refine jx_iaddE (z := nI (m + 20)) dX11_feed_11 (nI_add m 20) ?_
  refine jx_sipush (v := 700) dX11_feed_12 (by decide) ?_
  refine jx_icmpN_le (a := (m + 20)) (b := 700) 20 dX11_feed_15 (by decide) (by omega) (by omega) (fun h15 => ?_) (fun h15 => ?_)
  · refine jx_iconst (v := 0) dX11_feed_20 (by decide) ?_
    refine jx_istore dX11_feed_21 (by decide) ?_
    have kk := key (by omega) 0 (by omega)
    rw [flo_0, e0] at kk
    exact jx_ls (by exact ⟨rfl, rfl, rfl, rfl, rfl, rfl, rfl, trivial⟩) kk
  · refine jx_iconst (v := -1) dX11_feed_18 (by decide) ?_
    refine jx_iret dX11_feed_19 rfl ?_
    rw [if_pos h15, if_pos h15]
    exact ⟨rfl, rfl⟩
end RY
