/-! THE CLASS: burials -/
def tgF (T : Nat → Nat → Int32) (s k : Nat) : Bool := decide (cntN (fun p => s.testBit p) 6 ≤ cN (T 1072 8)) && !(anyN (fun p => s.testBit p && decide (cN (T 1081 p) &&& s ≠ 0)) k)
theorem tgF_s (T : Nat → Nat → Int32) (s k : Nat) : tgF T s (k + 1) = (tgF T s k && !(s.testBit k && decide (cN (T 1081 k) &&& s ≠ 0))) := by
  unfold tgF
  rw [anyN, Bool.not_or, Bool.and_assoc]
theorem opT_0 {T : Nat → Nat → Int32} {W H np len p d : Nat} (h : np ≤ p) : opT T W H np len p d = false := by unfold opT; rw [decide_eq_false (by omega)]; rfl
section BW2
variable {w : jWD} {l : Launch} {n : Nat} {I : Nat → Nat → Int32} {L : Nat → Nat → Int64} {R : Nat → Nat → Option Nat}

set_option maxHeartbeats 1000000 in
set_option maxRecDepth 20000 in
theorem tX4_findTogether (hW : jWok w l) (hR : RS R) {h : Nat} {T : Nat → Nat → Int32} {W H np len : Nat} (hC : CF I L R h T W H np len) : jRv w l mX4_findTogether 3 [.ref 1046] (n, shE, I, L, R) (fun t => (∃ J, t = (n, shE, J, L, R) ∧ eqx [1048] I J ∧ ∀ s, s < 64 → J 1048 s = jb (togT T np s))) := by
  refine jRv_of hW (by decide) rfl (Nat.le_of_ble_eq_true rfl) ?_
  have hC0 := hC
  obtain ⟨⟨hh, hRi⟩, hI, hRI, -, -, -⟩ := hC
  have hn6 := hRI.2.2.2.2.1.2
  have heb := hRI.2.2.2.1.2.1
  have heb2 := heb.2.2
  have key : ∀ s, s ≤ 64 → ∀ J, eqx [1048] I J → (∀ x, x < s → J 1048 x = jb (togT T np x)) → jWP w l mX4_findTogether 3 0 0 (fun v t => v = none ∧ (∃ J, t = (n, shE, J, L, R) ∧ eqx [1048] I J ∧ ∀ s, s < 64 → J 1048 s = jb (togT T np s))) (fun _ _ => False) 10 [(0, .ref 1046), (1, .ref h), (2, .int (nI s))] [] (n, shE, J, L, R) := by
    refine jdown _ (fun s hs ih => ?_)
    intro J e f
    have hg : ∀ b j, h ≤ b → b < h + 16 → J b j = I b j := fun b j h1 h2 => e b j (by simp; omega)
    have keyk : s < 64 → ∀ k, k ≤ np → jWP w l mX4_findTogether 3 0 0 (fun v t => v = none ∧ (∃ J, t = (n, shE, J, L, R) ∧ eqx [1048] I J ∧ ∀ s, s < 64 → J 1048 s = jb (togT T np s))) (fun _ _ => False) 36 [(0, .ref 1046), (1, .ref h), (2, .int (nI s)), (3, .int (jb (tgF T s k))), (4, .int (nI k))] [] (n, shE, J, L, R) := by
      intro hs64
      refine jdown _ (fun k hk ihk => ?_)
      rcases hh with rfl | rfl
      all_goals
        refine jx_iload dX4_findTogether_36 rfl ?_
        refine jx_aload_n dX4_findTogether_38 rfl ?_
        refine jx_getIE dX4_findTogether_39 flX4_36 rfl rfl ((hg _ _ (by omega) (by omega)).trans hI.2.2.1.1) ?_
        refine jx_icmpN_ge (a := k) (b := np) 85 dX4_findTogether_42 (by decide) (by omega) (by omega) (fun h42 => ?_) (fun h42 => ?_)
        · refine jx_aload_n dX4_findTogether_85 rfl ?_
          refine jx_getR dX4_findTogether_86 flX4_15 rfl rfl (hR _ _ _ rfl) ?_
          refine jx_iload_n dX4_findTogether_89 rfl ?_
          refine jx_iload_n dX4_findTogether_90 rfl ?_
          refine jx_zastN (s) dX4_findTogether_91 rfl (rfl) (by omega) (by omega) ?_
          refine jx_iinc dX4_findTogether_92 rfl (v := nI (s + 1)) (nI_1 _) (by decide) ?_
          refine jx_goto 10 dX4_findTogether_95 (by decide) ?_
          have hkn : k = np := by omega
          subst hkn
          refine jx_ls (by exact ⟨rfl, rfl, rfl, trivial⟩) (ih hs64 _ (eqx_u e (by decide)) (fun x hx => ?_))
          by_cases z : x = s
          · rw [z, upI_s]
            show jb (togT T k s) &&& 1 = jb (togT T k s)
            cases togT T k s <;> rfl
          · rw [upI_j z]; exact f x (by omega)
        · have h42 : k < np := by omega
          have hp6 : k < 6 := by omega
          have hfk := (hRI.2.2.2.2.2.1 k h42).2.2.2.2.2
          have hfk2 := hfk.2
          have hal := an_l _ hfk2 _ hs64
          refine jx_iload_n dX4_findTogether_45 rfl ?_
          refine jx_ifB_eq 77 dX4_findTogether_46 (by decide) (fun h46 => ?_) (fun h46 => ?_)
          · skip
            refine jx_iconst (v := 0) dX4_findTogether_77 (by decide) ?_
            refine jx_istore_n dX4_findTogether_78 rfl (by decide) ?_
            refine jx_iinc dX4_findTogether_79 rfl (v := nI (k + 1)) (nI_1 _) (by decide) ?_
            refine jx_goto 36 dX4_findTogether_82 (by decide) ?_
            have kk := ihk (by omega)
            rw [show tgF T s (k + 1) = false from by rw [tgF_s, h46]; rfl] at kk
            exact jx_ls (by exact ⟨rfl, rfl, rfl, rfl, rfl, trivial⟩) kk
          · refine jx_iload_n dX4_findTogether_49 rfl ?_
            refine jx_iload dX4_findTogether_50 rfl ?_
            refine jx_ishr dX4_findTogether_52 ?_
            refine jx_iconst (v := 1) dX4_findTogether_53 (by decide) ?_
            refine jx_iandE (z := jb (s.testBit k)) dX4_findTogether_54 (lf_all s hs64 k (by omega)) ?_
            refine jx_ifB_eq 73 dX4_findTogether_55 (by decide) (fun h55 => ?_) (fun h55 => ?_)
            · skip
              refine jx_iconst (v := 1) dX4_findTogether_73 (by decide) ?_
              refine jx_goto 78 dX4_findTogether_74 (by decide) ?_
              refine jx_istore_n dX4_findTogether_78 rfl (by decide) ?_
              refine jx_iinc dX4_findTogether_79 rfl (v := nI (k + 1)) (nI_1 _) (by decide) ?_
              refine jx_goto 36 dX4_findTogether_82 (by decide) ?_
              have kk := ihk (by omega)
              rw [show tgF T s (k + 1) = true from by rw [tgF_s, h46, h55]; rfl] at kk
              exact jx_ls (by exact ⟨rfl, rfl, rfl, rfl, rfl, trivial⟩) kk
            · refine jx_aload_n dX4_findTogether_58 rfl ?_
              refine jx_getR dX4_findTogether_59 flX4_42 rfl rfl (hR _ _ _ rfl) ?_
              refine jx_iload dX4_findTogether_62 rfl ?_
              refine jx_aald5N (k) dX4_findTogether_64 rfl (rfl) (by omega) (by decide) (hR _ _ _ (by first | exact rtPa _ hp6 | exact rtPb _ hp6)) ?_
              refine jx_getIE dX4_findTogether_65 flX4_81 (by first | exact shPa _ hp6 | exact shPb _ hp6) rfl ((hg _ _ (by omega) (by omega)).trans ((hI.2.2.1.2 k 5 h42 (by decide)).trans hfk.1)) ?_
              refine jx_iload_n dX4_findTogether_68 rfl ?_
              refine jx_iandE (z := nI (cN (T 1081 k) &&& s)) dX4_findTogether_69 (and64 _ hfk2 _ hs64) ?_
              refine jx_ifN_ne (a := (cN (T 1081 k) &&& s)) 77 dX4_findTogether_70 (by decide) (by omega) (fun h70 => ?_) (fun h70 => ?_)
              · skip
                refine jx_iconst (v := 0) dX4_findTogether_77 (by decide) ?_
                refine jx_istore_n dX4_findTogether_78 rfl (by decide) ?_
                refine jx_iinc dX4_findTogether_79 rfl (v := nI (k + 1)) (nI_1 _) (by decide) ?_
                refine jx_goto 36 dX4_findTogether_82 (by decide) ?_
                have kk := ihk (by omega)
                rw [show tgF T s (k + 1) = false from by rw [tgF_s, h46, h55, decide_eq_true h70]; rfl] at kk
                exact jx_ls (by exact ⟨rfl, rfl, rfl, rfl, rfl, trivial⟩) kk
              · skip
                refine jx_iconst (v := 1) dX4_findTogether_73 (by decide) ?_
                refine jx_goto 78 dX4_findTogether_74 (by decide) ?_
                refine jx_istore_n dX4_findTogether_78 rfl (by decide) ?_
                refine jx_iinc dX4_findTogether_79 rfl (v := nI (k + 1)) (nI_1 _) (by decide) ?_
                refine jx_goto 36 dX4_findTogether_82 (by decide) ?_
                have kk := ihk (by omega)
                rw [show tgF T s (k + 1) = true from by rw [tgF_s, h46, h55, decide_eq_false (fun q => q h70)]; rfl] at kk
                exact jx_ls (by exact ⟨rfl, rfl, rfl, rfl, rfl, trivial⟩) kk
    rcases hh with rfl | rfl
    all_goals
      refine jx_iload_n dX4_findTogether_10 rfl ?_
      refine jx_bipush (v := 64) dX4_findTogether_11 (by decide) ?_
      refine jx_icmpN_ge (a := s) (b := 64) 98 dX4_findTogether_13 (by decide) (by omega) (by omega) (fun h13 => ?_) (fun h13 => ?_)
      · refine jx_vret dX4_findTogether_98 rfl ?_
        exact ⟨rfl, J, rfl, e, fun x hx => f x (by omega)⟩
      · have h13 : s < 64 := by omega
        have hpl := pc6_le s
        refine jx_iload_n dX4_findTogether_16 rfl ?_
        refine jx_Si (as := [.int _]) dX4_findTogether_17 mlX4_72 okJ6_bitCount_0f7a4 stJ6_bitCount_0f7a4 rfl rfl (by decide) (Nat.le_of_ble_eq_true rfl) (tJ6_bitCount hW h13 _) ?_
        refine jx_aload_n dX4_findTogether_20 rfl ?_
        refine jx_getIE dX4_findTogether_21 flX4_78 rfl rfl ((hg _ _ (by omega) (by omega)).trans (hI.2.2.2.1.2.2.1.trans heb.1)) ?_
        refine jx_icmpN_gt (a := (pc6 s)) (b := (cN (T 1072 8))) 31 dX4_findTogether_24 (by decide) (by omega) (by omega) (fun h24 => ?_) (fun h24 => ?_)
        · skip
          refine jx_iconst (v := 0) dX4_findTogether_31 (by decide) ?_
          refine jx_istore_n dX4_findTogether_32 rfl (by decide) ?_
          refine jx_iconst (v := 0) dX4_findTogether_33 (by decide) ?_
          refine jx_istore dX4_findTogether_34 (by decide) ?_
          have kk := keyk h13 0 (Nat.zero_le _)
          rw [show tgF T s 0 = false from by unfold tgF; rw [← pc_cnt s h13, decide_eq_false (show ¬ pc6 s ≤ cN (T 1072 8) by omega)]; rfl] at kk
          exact jx_ls (by exact ⟨rfl, rfl, rfl, rfl, rfl, trivial⟩) kk
        · skip
          refine jx_iconst (v := 1) dX4_findTogether_27 (by decide) ?_
          refine jx_goto 32 dX4_findTogether_28 (by decide) ?_
          refine jx_istore_n dX4_findTogether_32 rfl (by decide) ?_
          refine jx_iconst (v := 0) dX4_findTogether_33 (by decide) ?_
          refine jx_istore dX4_findTogether_34 (by decide) ?_
          have kk := keyk h13 0 (Nat.zero_le _)
          rw [show tgF T s 0 = true from by unfold tgF; rw [← pc_cnt s h13, decide_eq_true (show pc6 s ≤ cN (T 1072 8) by omega)]; rfl] at kk
          exact jx_ls (by exact ⟨rfl, rfl, rfl, rfl, rfl, trivial⟩) kk
  refine jx_aload_n dX4_findTogether_0 rfl ?_
  refine jx_getR dX4_findTogether_1 flX4_26 rfl rfl (hR _ _ _ rfl) ?_
  refine jx_getR dX4_findTogether_4 flX4_30 rfl rfl hRi ?_
  refine jx_astore_n dX4_findTogether_7 rfl (by decide) ?_
  refine jx_iconst (v := 0) dX4_findTogether_8 (by decide) ?_
  refine jx_istore_n dX4_findTogether_9 rfl (by decide) ?_
  exact jx_ls (by exact ⟨rfl, rfl, rfl, trivial⟩) (key 0 (Nat.zero_le _) I (eqx_r _ I) (fun x hx => absurd hx (Nat.not_lt_zero x)))
set_option maxHeartbeats 1000000 in
set_option maxRecDepth 20000 in
theorem tX4_firstDay (hW : jWok w l) (hR : RS R) {h : Nat} {T : Nat → Nat → Int32} {W H np len : Nat} (hC : CF I L R h T W H np len) {res : Nat → Nat} {p : Nat} (hp : p < np) (hQ : QS T np) (hop : ∀ q, q < np → L 1047 q = bs (fun e => if q < p then decide (e = res q) else opT T W H np len q e)) (htog : ∀ s, s < 64 → I 1048 s = jb (togT T np s)) (hr : ∀ k, k < np → RV T W H len res k) (hk : dyN res np = fwE T np (opT T W H np len)) (h99 : fwE T np (opT T W H np len) < 99) (hmin : ∀ a, (∀ k, k < np → RV T W H len a k) → dyN a np ≤ fwE T np (opT T W H np len) → ∀ k, k < np → (∀ j, j < k → a j = res j) → res k ≤ a k) : jRi w l mX4_firstDay 5 [.ref 1046, .int (nI p), .int (nI (fwE T np (opT T W H np len)))] (n, shE, I, L, R) (fun r t => r = nI (res p) ∧ ∃ J, t = (n, shE, J, upL L 1047 p (bs (fun e => decide (e = res p))), R) ∧ eqx [1049] I J) := by
  refine jRi_of hW (by decide) rfl (Nat.le_of_ble_eq_true rfl) ?_
  have hC0 := hC
  obtain ⟨⟨hh, hRi⟩, hI, hRI, -, -, -⟩ := hC
  have hn6 := hRI.2.2.2.2.1.2
  have hrp : res p ≤ 40 := Nat.le_trans (hr p hp).1.2 bEnd_40
  have key : ∀ day, day ≤ res p → ∀ J M, eqx [1049] I J → (∀ b j, ¬ (b = 1047 ∧ j = p) → M b j = L b j) → jWP w l mX4_firstDay 5 0 0 (fun v t => ∃ r, v = some (.int r) ∧ (r = nI (res p) ∧ ∃ J, t = (n, shE, J, upL L 1047 p (bs (fun e => decide (e = res p))), R) ∧ eqx [1049] I J)) (fun _ _ => False) 10 [(0, .ref 1046), (1, .int (nI p)), (2, .int (nI (fwE T np (opT T W H np len)))), (3, .long (bs (fun e => opT T W H np len p e))), (5, .int (nI day))] [] (n, shE, J, M, R) := by
    refine jdown _ (fun day hday ih => ?_)
    intro J M e f
    have hF99 : fwE T np (opF T W H np len res p day) ≤ 99 := fw_99 41 _
    have hopJ : ∀ q, q < np → upL M 1047 p (bs (fun c => decide (c = day))) 1047 q = bs (opF T W H np len res p day q) := fun q hq => by
      by_cases z : q = p
      · rw [z, upL_s]
        refine bs_c (fun c _ => ?_)
        unfold opF
        rw [if_neg (Nat.lt_irrefl p), if_pos rfl]
      · rw [upL_j z, f 1047 q (fun y => z y.2), hop q hq]
        refine bs_c (fun c _ => ?_)
        unfold opF
        by_cases y : q < p
        · rw [if_pos y, if_pos y]
        · rw [if_neg y, if_neg y, if_neg z]
    have hop6 : ∀ q, np ≤ q → ∀ d, opF T W H np len res p day q d = false := fun q hq d => by
      unfold opF
      rw [if_neg (by omega), if_neg (by omega)]; exact opT_0 hq
    refine jx_iload dX4_firstDay_10 rfl ?_
    refine jx_bipush (v := 41) dX4_firstDay_12 (by decide) ?_
    refine jx_icmpN_ge (a := day) (b := 41) 53 dX4_firstDay_14 (by decide) (by omega) (by omega) (fun h14 => ?_) (fun h14 => ?_)
    · exact absurd h14 (by omega)
    · refine jx_lload_n dX4_firstDay_17 rfl ?_
      refine jx_iload dX4_firstDay_18 rfl ?_
      refine jx_Ni (as := [.long _, .int _]) dX4_firstDay_20 mlX4_68 okX10_has stX10_has rfl (by decide) (Nat.le_of_ble_eq_true rfl) (tX10_has hW (by omega) _) ?_
      refine jx_ifB_eq 47 dX4_firstDay_23 (by decide) (fun h23 => ?_) (fun h23 => ?_)
      · rw [bt_bs (by omega)] at h23
        have hne : day ≠ res p := fun z => by rw [z, opT_r hr hp] at h23; cases h23
        refine jx_iinc dX4_firstDay_47 rfl (v := nI (day + 1)) (nI_1 _) (by decide) ?_
        refine jx_goto 10 dX4_firstDay_50 (by decide) ?_
        exact jx_ls (by exact ⟨rfl, rfl, rfl, rfl, rfl, trivial⟩) (ih (by omega) J M e f)
      · rw [bt_bs (by omega)] at h23
        refine jx_aload_n dX4_firstDay_26 rfl ?_
        refine jx_getR dX4_firstDay_27 flX4_9 rfl rfl (hR _ _ _ rfl) ?_
        refine jx_iload_n dX4_firstDay_30 rfl ?_
        refine jx_lconst (v := 1) dX4_firstDay_31 (by decide) ?_
        refine jx_iload dX4_firstDay_32 rfl ?_
        refine jx_lshl dX4_firstDay_34 ?_
        refine jx_lastN (p) dX4_firstDay_35 rfl (rfl) (by omega) (by omega) ?_
        rw [bs_1 (by omega)]
        refine jx_aload_n dX4_firstDay_36 rfl ?_
        refine jx_VRi (as := []) dX4_firstDay_37 mlX4_61 okX4_fewestEbbs viX4_fewestEbbs rfl rfl rfl rfl rfl (by decide) (Nat.le_of_ble_eq_true rfl) (tX4_fewestEbbs (op := opF T W H np len res p day) (tog := togT T np) hW hR hh hRi ((e _ _ (by simp; omega)).trans hI.2.2.1.1) hn6 hopJ hop6 (fun s hs => (e 1048 s (by decide)).trans (htog s hs))) (fun x37 t37 hq37 => ?_)
        obtain ⟨rfl, J2, rfl, e2⟩ := hq37
        have hF99 : fwE T np (opF T W H np len res p day) ≤ 99 := fw_99 41 _
        refine jx_iload_n dX4_firstDay_40 rfl ?_
        refine jx_icmpN_ne (a := (fwE T np (opF T W H np len res p day))) (b := (fwE T np (opT T W H np len))) 47 dX4_firstDay_41 (by decide) (by omega) (by omega) (fun h41 => ?_) (fun h41 => ?_)
        · have hne : day ≠ res p := fun z => h41 (by rw [z]; exact bur_3 hn6 hQ hp hr hk)
          refine jx_iinc dX4_firstDay_47 rfl (v := nI (day + 1)) (nI_1 _) (by decide) ?_
          refine jx_goto 10 dX4_firstDay_50 (by decide) ?_
          refine jx_ls (by exact ⟨rfl, rfl, rfl, rfl, rfl, trivial⟩) (ih (by omega) J2 _ (eqx_t e e2) (fun b j hb => ?_))
          rw [upL_ne hb]; exact f b j hb
        · refine jx_iload dX4_firstDay_44 rfl ?_
          refine jx_iret dX4_firstDay_46 rfl ?_
          have hdr : day = res p := by
            by_cases z : day < res p
            · exact absurd h41 (bur_2 hn6 hp hr h99 hmin h23 z)
            · omega
          subst hdr
          refine ⟨_, rfl, rfl, J2, ?_, eqx_t e e2⟩
          have hfe : upL M 1047 p (bs (fun c => decide (c = res p))) = upL L 1047 p (bs (fun c => decide (c = res p))) := by
            funext b j
            by_cases z : b = 1047 ∧ j = p
            · rw [z.1, z.2, upL_s, upL_s]
            · rw [upL_ne z, upL_ne z]; exact f b j z
          rw [hfe]
  refine jx_aload_n dX4_firstDay_0 rfl ?_
  refine jx_getR dX4_firstDay_1 flX4_9 rfl rfl (hR _ _ _ rfl) ?_
  refine jx_iload_n dX4_firstDay_4 rfl ?_
  refine jx_laldE (p) dX4_firstDay_5 rfl (rfl) (by omega) (by omega) ((hop p hp).trans (bs_c (g := fun e => opT T W H np len p e) (fun c _ => by rw [if_neg (Nat.lt_irrefl p)]))) ?_
  refine jx_lstore_n dX4_firstDay_6 rfl (by decide) ?_
  refine jx_iconst (v := 0) dX4_firstDay_7 (by decide) ?_
  refine jx_istore dX4_firstDay_8 (by decide) ?_
  exact jx_ls (by exact ⟨rfl, rfl, rfl, rfl, rfl, trivial⟩) (key 0 (Nat.zero_le _) I L (eqx_r _ I) (fun _ _ _ => rfl))
end BW2
