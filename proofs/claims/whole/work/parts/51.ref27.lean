/-! THE REFERENCE: words -/
def pfW (tp : Nat → Nat) (b : Nat) (cs : List Nat) (k : Nat) : Bool := decide (∀ j, j < k → cs.getD j 0 = tp (b + j))
def isW (tp : Nat → Nat) (sz b bd : Nat) (cs : List Nat) : Bool := decide (bd = 0) && decide (tKd tp sz b = 1) && decide (cs.length = tEnd tp sz b - b) && pfW tp b cs cs.length
theorem pfW_s {tp : Nat → Nat} {b : Nat} {cs : List Nat} {k : Nat} (h : pfW tp b cs k = true) (e : cs.getD k 0 = tp (b + k)) : pfW tp b cs (k + 1) = true := decide_eq_true (fun j hj => by
  by_cases z : j = k
  · rw [z]; exact e
  · exact of_decide_eq_true h j (by omega))
theorem pfW_n {tp : Nat → Nat} {b : Nat} {cs : List Nat} {k : Nat} (e : ¬ cs.getD k 0 = tp (b + k)) : pfW tp b cs (k + 1) = false := decide_eq_false (fun h => e (h k (by omega)))
theorem pfW_m {tp : Nat → Nat} {b : Nat} {cs : List Nat} {k m : Nat} (h : pfW tp b cs k = false) (hm : k ≤ m) : pfW tp b cs m = false := decide_eq_false (fun g => of_decide_eq_false h (fun j hj => g j (by omega)))
def okW (i : Nat) (cs : List Nat) : Prop := i < 500 ∧ (∃ q : String × Nat × String × List Int32, jsr[i]? = some q ∧ q.2.2.2 = cs.map nI) ∧ (∀ c ∈ cs, c < 128) ∧ cs.length < 100
section RA1
variable {w : jWD} {l : Launch} {n : Nat} {I J : Nat → Nat → Int32} {L : Nat → Nat → Int64} {R : Nat → Nat → Option Nat}

set_option maxHeartbeats 1000000 in
set_option maxRecDepth 20000 in
theorem tX11_is (hW : jWok w l) (hR : RS R) {sz b bd : Nat} {tp : Nat → Nat} (hP : PSt I sz tp b bd) {i : Nat} {cs : List Nat} (hw : okW i cs) : jCD w l mX11_is 5 [.ref 1069, .ref i] (n, shE, I, L, R) (some (.int (jb (isW tp sz b bd cs)))) (n, shE, I, L, R) := by
  refine jCD_of hW (by decide) rfl (Nat.le_of_ble_eq_true rfl) ?_
  obtain ⟨hK, ⟨t18, t20, t22, t23, t21⟩, hbs, hbd, hb5⟩ := hP
  have hz7 := hK.2.1
  have hkl := tKd_le tp sz b
  obtain ⟨hel, her⟩ := tEnd_le (tp := tp) hbs
  obtain ⟨hi, ⟨q, hq, hcs⟩, h7, hcl⟩ := hw
  have hlen : q.2.2.2.length = cs.length := by rw [hcs, List.length_map]
  have hget : ∀ k, k < cs.length → q.2.2.2.getD k 0 = nI (cs.getD k 0) ∧ cs.getD k 0 < 128 := fun k hk => by
    rw [hcs, List.getD_eq_getElem?_getD, List.getElem?_map, List.getD_eq_getElem?_getD, List.getElem?_eq_getElem hk]
    exact ⟨rfl, h7 _ (List.getElem_mem hk)⟩
  have key : bd = 0 → tKd tp sz b = 1 → cs.length = tEnd tp sz b - b → ∀ k, k ≤ cs.length → jWP w l mX11_is 5 0 0 (fun r t => r = some (.int (jb (isW tp sz b bd cs))) ∧ t = (n, shE, I, L, R)) (fun _ _ => False) 39 [(0, .ref 1069), (1, .ref i), (2, .int (jb (pfW tp b cs k))), (3, .int (nI k))] [] (n, shE, I, L, R) := by
    intro e1 e2 e3
    have e4 : isW tp sz b bd cs = pfW tp b cs cs.length := by unfold isW; rw [decide_eq_true e1, decide_eq_true e2, decide_eq_true e3]; rfl
    rw [e4]
    refine jdown _ (fun k hk ih => ?_)
    refine jx_iload_n dX11_is_39 rfl ?_
    refine jx_ifB_eq 82 dX11_is_40 (by decide) (fun h40 => ?_) (fun h40 => ?_)
    · refine jx_iload_n dX11_is_82 rfl ?_
      refine jx_zret dX11_is_83 rfl ?_ ?_
      · first | exact Or.inl rfl | exact Or.inr rfl | exact jb_or _
      refine ⟨?_, rfl⟩
      first | (rw [h40, pfW_m h40 hk]) | (rw [show k = cs.length from by omega])
    · refine jx_iload_n dX11_is_43 rfl ?_
      refine jx_aload_n dX11_is_44 rfl ?_
      refine jx_VOi (as := []) dX11_is_45 mlX11_246 okJ0_length_8abf5 viJ0_length_8abf5 rfl hq (by omega) rfl rfl (by decide) (Nat.le_of_ble_eq_true rfl) (tJ0_length hW hq hi) ?_
      rw [hlen]
      refine jx_icmpN_ge (a := k) (b := cs.length) 82 dX11_is_48 (by decide) (by omega) (by omega) (fun h48 => ?_) (fun h48 => ?_)
      · refine jx_iload_n dX11_is_82 rfl ?_
        refine jx_zret dX11_is_83 rfl ?_ ?_
        · first | exact Or.inl rfl | exact Or.inr rfl | exact jb_or _
        refine ⟨?_, rfl⟩
        first | (rw [h40, pfW_m h40 hk]) | (rw [show k = cs.length from by omega])
      · have h48 : k < cs.length := by omega
        have c7 := (hget k h48).2
        have htb := (hK.2.2 (b + k) (by omega)).2
        refine jx_aload_n dX11_is_51 rfl ?_
        refine jx_iload_n dX11_is_52 rfl ?_
        refine jx_VOi (as := [.int _]) dX11_is_53 mlX11_250 okJ0_charAt_5068e viJ0_charAt_5068e rfl hq (by omega) rfl rfl (by decide) (Nat.le_of_ble_eq_true rfl) (tJ0_charAt hW hq hi (by rw [hlen]; exact h48) (by omega) (hget k h48).1 (hget k h48).2) ?_
        refine jx_aload_n dX11_is_56 rfl ?_
        refine jx_getR dX11_is_57 flX11_75 rfl rfl (hR _ _ _ rfl) ?_
        refine jx_aload_n dX11_is_60 rfl ?_
        refine jx_getIE dX11_is_61 flX11_211 rfl rfl (t22) ?_
        refine jx_iload_n dX11_is_64 rfl ?_
        refine jx_iaddE (z := nI (b + k)) dX11_is_65 (nI_add b k) ?_
        refine jx_ialdE (b + k) dX11_is_66 rfl (rfl) (by omega) (by omega) ((hK.2.2 (b + k) (by omega)).1) ?_
        refine jx_icmpN_ne (a := (cs.getD k 0)) (b := (tp (b + k))) 74 dX11_is_67 (by decide) (by omega) (by omega) (fun h67 => ?_) (fun h67 => ?_)
        · refine jx_iconst (v := 0) dX11_is_74 (by decide) ?_
          refine jx_istore_n dX11_is_75 rfl (by decide) ?_
          refine jx_iinc dX11_is_76 rfl (v := nI (k + 1)) (nI_1 _) (by decide) ?_
          refine jx_goto 39 dX11_is_79 (by decide) ?_
          have kk := ih (by omega)
          rw [show pfW tp b cs (k + 1) = false from pfW_n h67] at kk
          exact jx_ls (by exact ⟨rfl, rfl, rfl, rfl, trivial⟩) kk
        · refine jx_iconst (v := 1) dX11_is_70 (by decide) ?_
          refine jx_goto 75 dX11_is_71 (by decide) ?_
          refine jx_istore_n dX11_is_75 rfl (by decide) ?_
          refine jx_iinc dX11_is_76 rfl (v := nI (k + 1)) (nI_1 _) (by decide) ?_
          refine jx_goto 39 dX11_is_79 (by decide) ?_
          have kk := ih (by omega)
          rw [show pfW tp b cs (k + 1) = true from pfW_s h40 h67] at kk
          exact jx_ls (by exact ⟨rfl, rfl, rfl, rfl, trivial⟩) kk
  refine jx_aload_n dX11_is_0 rfl ?_
  refine jx_getIE dX11_is_1 flX11_240 rfl rfl (hbd) ?_
  refine jx_ifN_ne (a := bd) 35 dX11_is_4 (by decide) (by omega) (fun h4 => ?_) (fun h4 => ?_)
  · refine jx_iconst (v := 0) dX11_is_35 (by decide) ?_
    refine jx_istore_n dX11_is_36 rfl (by decide) ?_
    refine jx_iconst (v := 0) dX11_is_37 (by decide) ?_
    refine jx_istore_n dX11_is_38 rfl (by decide) ?_
    refine jx_iload_n dX11_is_39 rfl ?_
    refine jx_ifN_eq (a := 0) 82 dX11_is_40 (by decide) (by decide) (fun h40 => ?_) (fun h40 => absurd h40 (by decide))
    refine jx_iload_n dX11_is_82 rfl ?_
    refine jx_zret dX11_is_83 rfl ?_ ?_
    · first | exact Or.inl rfl | exact Or.inr rfl | exact jb_or _
    refine ⟨?_, rfl⟩
    unfold isW
    first | (rw [decide_eq_false h4]; rfl) | (rw [decide_eq_false h12, Bool.and_false]; rfl) | (rw [decide_eq_false h28, Bool.and_false]; rfl)
  · refine jx_aload_n dX11_is_7 rfl ?_
    refine jx_getIE dX11_is_8 flX11_214 rfl rfl (t20) ?_
    refine jx_iconst (v := 1) dX11_is_11 (by decide) ?_
    refine jx_icmpN_ne (a := (tKd tp sz b)) (b := 1) 35 dX11_is_12 (by decide) (by omega) (by omega) (fun h12 => ?_) (fun h12 => ?_)
    · refine jx_iconst (v := 0) dX11_is_35 (by decide) ?_
      refine jx_istore_n dX11_is_36 rfl (by decide) ?_
      refine jx_iconst (v := 0) dX11_is_37 (by decide) ?_
      refine jx_istore_n dX11_is_38 rfl (by decide) ?_
      refine jx_iload_n dX11_is_39 rfl ?_
      refine jx_ifN_eq (a := 0) 82 dX11_is_40 (by decide) (by decide) (fun h40 => ?_) (fun h40 => absurd h40 (by decide))
      refine jx_iload_n dX11_is_82 rfl ?_
      refine jx_zret dX11_is_83 rfl ?_ ?_
      · first | exact Or.inl rfl | exact Or.inr rfl | exact jb_or _
      refine ⟨?_, rfl⟩
      unfold isW
      first | (rw [decide_eq_false h4]; rfl) | (rw [decide_eq_false h12, Bool.and_false]; rfl) | (rw [decide_eq_false h28, Bool.and_false]; rfl)
    · refine jx_aload_n dX11_is_15 rfl ?_
      refine jx_VOi (as := []) dX11_is_16 mlX11_246 okJ0_length_8abf5 viJ0_length_8abf5 rfl hq (by omega) rfl rfl (by decide) (Nat.le_of_ble_eq_true rfl) (tJ0_length hW hq hi) ?_
      rw [hlen]
      refine jx_aload_n dX11_is_19 rfl ?_
      refine jx_getIE dX11_is_20 flX11_237 rfl rfl (t23) ?_
      refine jx_aload_n dX11_is_23 rfl ?_
      refine jx_getIE dX11_is_24 flX11_211 rfl rfl (t22) ?_
      refine jx_isubE (z := nI ((tEnd tp sz b) - b)) dX11_is_27 (pk_sub (a := (tEnd tp sz b)) (b := b) (by omega)) ?_
      refine jx_icmpN_ne (a := cs.length) (b := ((tEnd tp sz b) - b)) 35 dX11_is_28 (by decide) (by omega) (by omega) (fun h28 => ?_) (fun h28 => ?_)
      · refine jx_iconst (v := 0) dX11_is_35 (by decide) ?_
        refine jx_istore_n dX11_is_36 rfl (by decide) ?_
        refine jx_iconst (v := 0) dX11_is_37 (by decide) ?_
        refine jx_istore_n dX11_is_38 rfl (by decide) ?_
        refine jx_iload_n dX11_is_39 rfl ?_
        refine jx_ifN_eq (a := 0) 82 dX11_is_40 (by decide) (by decide) (fun h40 => ?_) (fun h40 => absurd h40 (by decide))
        refine jx_iload_n dX11_is_82 rfl ?_
        refine jx_zret dX11_is_83 rfl ?_ ?_
        · first | exact Or.inl rfl | exact Or.inr rfl | exact jb_or _
        refine ⟨?_, rfl⟩
        unfold isW
        first | (rw [decide_eq_false h4]; rfl) | (rw [decide_eq_false h12, Bool.and_false]; rfl) | (rw [decide_eq_false h28, Bool.and_false]; rfl)
      · refine jx_iconst (v := 1) dX11_is_31 (by decide) ?_
        refine jx_goto 36 dX11_is_32 (by decide) ?_
        refine jx_istore_n dX11_is_36 rfl (by decide) ?_
        refine jx_iconst (v := 0) dX11_is_37 (by decide) ?_
        refine jx_istore_n dX11_is_38 rfl (by decide) ?_
        have kk := key h4 h12 h28 0 (by omega)
        rw [show pfW tp b cs 0 = true from decide_eq_true (fun j hj => absurd hj (by omega))] at kk
        exact jx_ls (by exact ⟨rfl, rfl, rfl, rfl, trivial⟩) kk
set_option maxHeartbeats 1000000 in
set_option maxRecDepth 20000 in
theorem tX11_which (hW : jWok w l) (hR : RS R) {sz b bd : Nat} {tp : Nat → Nat} (hP : PSt I sz tp b bd) {a i0 : Nat} {ws : Nat → List Nat} (ha : shE a = (6, 4)) (hr : ∀ k, k < 4 → rtE a k = some (i0 + k)) (hw : ∀ k, k < 4 → okW (i0 + k) (ws k)) : jCD w l mX11_which 6 [.ref 1069, .ref a] (n, shE, I, L, R) (some (.int (oI (fnd (fun k => isW tp sz b bd (ws k)) 4)))) (n, shE, I, L, R) := by
  refine jCD_of hW (by decide) rfl (Nat.le_of_ble_eq_true rfl) ?_
  have key : ∀ k, k ≤ 4 → (∀ j, j < k → isW tp sz b bd (ws j) = false) → jWP w l mX11_which 6 0 0 (fun r t => r = some (.int (oI (fnd (fun k => isW tp sz b bd (ws k)) 4))) ∧ t = (n, shE, I, L, R)) (fun _ _ => False) 2 [(0, .ref 1069), (1, .ref a), (2, .int (nI k))] [] (n, shE, I, L, R) := by
    refine jdown _ (fun k hk ih hj => ?_)
    refine jx_iload_n dX11_which_2 rfl ?_
    refine jx_aload_n dX11_which_3 rfl ?_
    refine jx_alen dX11_which_4 ha (by decide) (by decide) ?_
    refine jx_icmpN_ge (a := k) (b := 4) 26 dX11_which_5 (by decide) (by omega) (by omega) (fun h5 => ?_) (fun h5 => ?_)
    · refine jx_iconst (v := -1) dX11_which_26 (by decide) ?_
      refine jx_iret dX11_which_27 rfl ?_
      refine ⟨?_, rfl⟩
      rw [fnd_none.mpr (fun j hj4 => hj j (by omega))]
      rfl
    · have h5 : k < 4 := by omega
      refine jx_aload_n dX11_which_8 rfl ?_
      refine jx_aload_n dX11_which_9 rfl ?_
      refine jx_iload_n dX11_which_10 rfl ?_
      refine jx_aald6N (k) dX11_which_11 ha (rfl) (by omega) (by decide) (hR _ _ _ (hr k h5)) ?_
      refine jx_Vi (as := [.ref _]) dX11_which_12 mlX11_254 okX11_is viX11_is rfl rfl rfl rfl rfl (by decide) (Nat.le_of_ble_eq_true rfl) (tX11_is hW hR hP (hw k h5)) ?_
      refine jx_ifB_eq 20 dX11_which_15 (by decide) (fun h15 => ?_) (fun h15 => ?_)
      · refine jx_iinc dX11_which_20 rfl (v := nI (k + 1)) (nI_1 _) (by decide) ?_
        refine jx_goto 2 dX11_which_23 (by decide) ?_
        exact jx_ls (by exact ⟨rfl, rfl, rfl, trivial⟩) (ih h5 (fun j hj2 => by
          by_cases z : j = k
          · rw [z]; exact h15
          · exact hj j (by omega)))
      · refine jx_iload_n dX11_which_18 rfl ?_
        refine jx_iret dX11_which_19 rfl ?_
        refine ⟨?_, rfl⟩
        rw [fnd_some.mpr ⟨h5, h15, hj⟩]
        rfl
  refine jx_iconst (v := 0) dX11_which_0 (by decide) ?_
  refine jx_istore_n dX11_which_1 rfl (by decide) ?_
  exact jx_ls (by exact ⟨rfl, rfl, rfl, trivial⟩) (key 0 (by omega) (fun j hj => absurd hj (by omega)))
end RA1
