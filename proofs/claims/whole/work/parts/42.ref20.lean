/-! THE REFERENCE: burials -/
def upN (f : Nat → Nat) (k v : Nat) : Nat → Nat := fun j => if j = k then v else f j
def fstO (f : Nat → Option (Nat → Nat)) : Nat → Nat → Option (Nat → Nat)
  | _, 0 => none
  | lo, c + 1 => match f lo with
    | some x => some x
    | none => fstO f (lo + 1) c
def mor (mo : Nat → Nat) (d : Nat) : Nat := if mo d = 0 then 1 else 0
def bQu (I : Nat → Nat → Int32) (p d : Nat) (dt : Nat → Nat) : Bool := anyN (fun k => decide (dt k = d) && (cN (I 1081 p)).testBit k) p
def bOk (I : Nat → Nat → Int32) (W H len p d left : Nat) (dt mo : Nat → Nat) : Bool := cnD I W H len p d && !decide (mo d = cN (I 1072 8)) && !decide (left < mor mo d) && !(bQu I p d dt)
def bEnd (I : Nat → Nat → Int32) (p : Nat) : Nat := if cN (I 1080 p) + cN (I 1072 9) < 40 then cN (I 1080 p) + cN (I 1072 9) else 40
def bry (I : Nat → Nat → Int32) (W H len : Nat) : Nat → Nat → Nat → (Nat → Nat) → (Nat → Nat) → Option (Nat → Nat)
  | 0, _, _, dt, _ => some dt
  | r + 1, p, left, dt, mo => fstO (fun d => if bOk I W H len p d left dt mo = true then bry I W H len r (p + 1) (left - mor mo d) (upN dt p d) (upN mo d (mo d + 1)) else none) (cN (I 1080 p)) (bEnd I p + 1 - cN (I 1080 p))
section RT2
variable {w : jWD} {l : Launch} {n : Nat} {I J : Nat → Nat → Int32} {L : Nat → Nat → Int64} {R : Nat → Nat → Option Nat}

set_option maxHeartbeats 1000000 in
set_option maxRecDepth 20000 in
theorem tX11_buryOn (hW : jWok w l) (hR : RS R) {W H np len : Nat} (hI : RI I W H np len) : ∀ (r p left : Nat) (dt mo : Nat → Nat) (J : Nat → Nat → Int32), p + r = np → kp I J → DYs I J W H len (41 * np) → (∀ k, k < p → J 1101 k = nI (dt k) ∧ dt k ≤ 40) → (∀ d, d ≤ 40 → J 1103 d = nI (mo d) ∧ mo d ≤ p) → left ≤ 6 → jRi w l mX11_buryOn (2 + r) [.ref 1069, .int (nI p), .int (nI left)] (n, shE, J, L, R) (fun r_1 t => r_1 = jb (bry I W H len r p left dt mo).isSome ∧ ∃ K, t = (n, shE, K, L, R) ∧ (∀ b j, b ≠ 1101 → K b j = J b j) ∧ (∀ k, k < p → K 1101 k = J 1101 k) ∧ ∀ res, bry I W H len r p left dt mo = some res → ∀ k, k < np → K 1101 k = nI (res k) ∧ res k ≤ 40) := by
  have hnp := hI.2.2.2.2.1.2
  intro r
  induction r with
  | zero =>
    intro p left dt mo J hpr hkp hdy hdt hmo hl
    have hpn : p = np := by omega
    subst hpn
    refine jRi_of hW (by decide) rfl (Nat.le_of_ble_eq_true rfl) ?_
    refine jx_iload_n dX11_buryOn_0 rfl ?_
    refine jx_aload_n dX11_buryOn_1 rfl ?_
    refine jx_getR dX11_buryOn_2 flX11_34 rfl rfl (hR _ _ _ rfl) ?_
    refine jx_bipush (v := 10) dX11_buryOn_5 (by decide) ?_
    refine jx_ialdE (10) dX11_buryOn_7 rfl (rfl) (by omega) (by omega) ((congrFun (hkp 1072 (by omega) (by omega)) 10).trans hI.2.2.2.2.1.1) ?_
    refine jx_icmpN_ne (a := p) (b := p) 13 dX11_buryOn_8 (by decide) (by omega) (by omega) (fun h8 => ?_) (fun h8 => ?_)
    · exact absurd rfl h8
    · refine jx_iconst (v := 1) dX11_buryOn_11 (by decide) ?_
      refine jx_zret dX11_buryOn_12 rfl ?_ ?_
      · first | exact Or.inl rfl | exact Or.inr rfl | exact jb_or _
      exact ⟨_, rfl, rfl, J, rfl, fun _ _ _ => rfl, fun _ _ => rfl, fun res hr k hk => by cases hr; exact hdt k hk⟩
  | succ r ih =>
    intro p left dt mo J hpr hkp hdy hdt hmo hl
    have hpn : p < np := by omega
    refine jRi_of hW (by decide) rfl (Nat.le_of_ble_eq_true rfl) ?_
    obtain ⟨-, -, -, -, hk5, hk6⟩ := hI.2.2.2.2.2.1 p hpn
    have hd20 := hk5.2
    have he8 := hI.2.2.2.1.2.1
    have he9 := hI.2.2.2.1.2.2
    have he92 := he9.2
    obtain ⟨B, hB⟩ : ∃ B, B = bry I W H len (r + 1) p left dt mo := ⟨_, rfl⟩
    rw [← hB]
    have hE : bEnd I p ≤ 40 ∧ cN (I 1080 p) ≤ bEnd I p := by unfold bEnd; split <;> omega
    have key : ∀ c d, d + c = bEnd I p + 1 → cN (I 1080 p) ≤ d → fstO (fun d => if bOk I W H len p d left dt mo = true then bry I W H len r (p + 1) (left - mor mo d) (upN dt p d) (upN mo d (mo d + 1)) else none) d c = B → ∀ K, (∀ b j, b ≠ 1101 → K b j = J b j) → (∀ k, k < p → K 1101 k = J 1101 k) → jWP w l mX11_buryOn (2 + (r + 1)) 0 0 (fun v t => ∃ r_1, v = some (.int r_1) ∧ (fun r_1 t => r_1 = jb B.isSome ∧ ∃ K, t = (n, shE, K, L, R) ∧ (∀ b j, b ≠ 1101 → K b j = J b j) ∧ (∀ k, k < p → K 1101 k = J 1101 k) ∧ ∀ res, B = some res → ∀ k, k < np → K 1101 k = nI (res k) ∧ res k ≤ 40) r_1 t) (fun _ _ => False) 20 [(0, .ref 1069), (1, .int (nI p)), (2, .int (nI left)), (3, .int (nI d))] [] (n, shE, K, L, R) := by
      intro c
      induction c with
      | zero =>
        intro d hdc hdd hf K k1 k2
        have hBn : B = none := hf.symm
        have hJ : kp I K := kp_t hkp (fun a q1 q2 => funext fun j => k1 a j (by omega))
        refine jx_iload_n dX11_buryOn_20 rfl ?_
        refine jx_bipush (v := 40) dX11_buryOn_21 (by decide) ?_
        refine jx_aload_n dX11_buryOn_23 rfl ?_
        refine jx_getR dX11_buryOn_24 flX11_59 rfl rfl (hR _ _ _ rfl) ?_
        refine jx_iload_n dX11_buryOn_27 rfl ?_
        refine jx_ialdE (p) dX11_buryOn_28 rfl (rfl) (by omega) (by omega) ((congrFun (hJ 1080 (by omega) (by omega)) p).trans hk5.1) ?_
        refine jx_aload_n dX11_buryOn_29 rfl ?_
        refine jx_getR dX11_buryOn_30 flX11_34 rfl rfl (hR _ _ _ rfl) ?_
        refine jx_bipush (v := 9) dX11_buryOn_33 (by decide) ?_
        refine jx_ialdE (9) dX11_buryOn_35 rfl (rfl) (by omega) (by omega) ((congrFun (hJ 1072 (by omega) (by omega)) 9).trans he9.1) ?_
        refine jx_iaddE (z := nI ((cN (I 1080 p)) + (cN (I 1072 9)))) dX11_buryOn_36 (nI_add (cN (I 1080 p)) (cN (I 1072 9))) ?_
        refine jx_Si (as := [.int _, .int _]) dX11_buryOn_37 mlX11_228 okJ9_min_7cf53 stJ9_min_7cf53 rfl rfl (by omega) (Nat.le_of_ble_eq_true rfl) (tJ9_min_7cf53 hW _ _ _) ?_
        rw [show (if nI (cN (I 1080 p) + cN (I 1072 9)) < 40 then nI (cN (I 1080 p) + cN (I 1072 9)) else 40) = nI (bEnd I p) from by
          unfold bEnd
          by_cases z : cN (I 1080 p) + cN (I 1072 9) < 40
          · have hz : nI (cN (I 1080 p) + cN (I 1072 9)) < (40 : Int32) := (nI_ltI (b := 40) (by omega) (by omega)).mpr z
            rw [if_pos z, if_pos hz]
          · have hz : ¬ nI (cN (I 1080 p) + cN (I 1072 9)) < (40 : Int32) := fun q => z ((nI_ltI (b := 40) (by omega) (by omega)).mp q)
            rw [if_neg z, if_neg hz]; rfl]
        refine jx_icmpN_gt (a := d) (b := (bEnd I p)) 160 dX11_buryOn_40 (by decide) (by omega) (by omega) (fun h40 => ?_) (fun h40 => ?_)
        · refine jx_iconst (v := 0) dX11_buryOn_160 (by decide) ?_
          refine jx_zret dX11_buryOn_161 rfl ?_ ?_
          · first | exact Or.inl rfl | exact Or.inr rfl | exact jb_or _
          refine ⟨_, rfl, ?_, K, rfl, k1, k2, fun res hr => ?_⟩
          · rw [hBn]; rfl
          · rw [hBn] at hr; cases hr
        · exfalso; omega
      | succ c ihc =>
        intro d hdc hdd hf K k1 k2
        have hJ : kp I K := kp_t hkp (fun a q1 q2 => funext fun j => k1 a j (by omega))
        have hmd := hmo d (by omega)
        have hKm : K 1103 d = nI (mo d) := (k1 1103 d (by decide)).trans hmd.1
        have hmp := hmd.2
        refine jx_iload_n dX11_buryOn_20 rfl ?_
        refine jx_bipush (v := 40) dX11_buryOn_21 (by decide) ?_
        refine jx_aload_n dX11_buryOn_23 rfl ?_
        refine jx_getR dX11_buryOn_24 flX11_59 rfl rfl (hR _ _ _ rfl) ?_
        refine jx_iload_n dX11_buryOn_27 rfl ?_
        refine jx_ialdE (p) dX11_buryOn_28 rfl (rfl) (by omega) (by omega) ((congrFun (hJ 1080 (by omega) (by omega)) p).trans hk5.1) ?_
        refine jx_aload_n dX11_buryOn_29 rfl ?_
        refine jx_getR dX11_buryOn_30 flX11_34 rfl rfl (hR _ _ _ rfl) ?_
        refine jx_bipush (v := 9) dX11_buryOn_33 (by decide) ?_
        refine jx_ialdE (9) dX11_buryOn_35 rfl (rfl) (by omega) (by omega) ((congrFun (hJ 1072 (by omega) (by omega)) 9).trans he9.1) ?_
        refine jx_iaddE (z := nI ((cN (I 1080 p)) + (cN (I 1072 9)))) dX11_buryOn_36 (nI_add (cN (I 1080 p)) (cN (I 1072 9))) ?_
        refine jx_Si (as := [.int _, .int _]) dX11_buryOn_37 mlX11_228 okJ9_min_7cf53 stJ9_min_7cf53 rfl rfl (by omega) (Nat.le_of_ble_eq_true rfl) (tJ9_min_7cf53 hW _ _ _) ?_
        rw [show (if nI (cN (I 1080 p) + cN (I 1072 9)) < 40 then nI (cN (I 1080 p) + cN (I 1072 9)) else 40) = nI (bEnd I p) from by
          unfold bEnd
          by_cases z : cN (I 1080 p) + cN (I 1072 9) < 40
          · have hz : nI (cN (I 1080 p) + cN (I 1072 9)) < (40 : Int32) := (nI_ltI (b := 40) (by omega) (by omega)).mpr z
            rw [if_pos z, if_pos hz]
          · have hz : ¬ nI (cN (I 1080 p) + cN (I 1072 9)) < (40 : Int32) := fun q => z ((nI_ltI (b := 40) (by omega) (by omega)).mp q)
            rw [if_neg z, if_neg hz]; rfl]
        refine jx_icmpN_gt (a := d) (b := (bEnd I p)) 160 dX11_buryOn_40 (by decide) (by omega) (by omega) (fun h40 => ?_) (fun h40 => ?_)
        · refine jx_iconst (v := 0) dX11_buryOn_160 (by decide) ?_
          refine jx_zret dX11_buryOn_161 rfl ?_ ?_
          · first | exact Or.inl rfl | exact Or.inr rfl | exact jb_or _
          exfalso; omega
        · refine jx_aload_n dX11_buryOn_43 rfl ?_
          refine jx_getR dX11_buryOn_44 flX11_136 rfl rfl (hR _ _ _ rfl) ?_
          refine jx_iload_n dX11_buryOn_47 rfl ?_
          refine jx_ialdE (d) dX11_buryOn_48 rfl (rfl) (by omega) (by omega) (hKm) ?_
          refine jx_ifN_ne (a := (mo d)) 56 dX11_buryOn_49 (by decide) (by omega) (fun h49 => ?_) (fun h49 => ?_)
          · refine jx_iconst (v := 0) dX11_buryOn_56 (by decide) ?_
            refine jx_istore dX11_buryOn_57 (by decide) ?_
            refine jx_aload_n dX11_buryOn_59 rfl ?_
            refine jx_getR dX11_buryOn_60 flX11_124 rfl rfl (hR _ _ _ rfl) ?_
            refine jx_bipush (v := 41) dX11_buryOn_63 (by decide) ?_
            refine jx_iload_n dX11_buryOn_65 rfl ?_
            refine jx_imulE (z := nI (41 * p)) dX11_buryOn_66 (pk_mul 41 p) ?_
            refine jx_iload_n dX11_buryOn_67 rfl ?_
            refine jx_iaddE (z := nI ((41 * p) + d)) dX11_buryOn_68 (nI_add (41 * p) d) ?_
            refine jx_zaldE ((41 * p) + d) dX11_buryOn_69 rfl (rfl) (by omega) (by omega) ((k1 1099 _ (by decide)).trans (hdy p d (by omega) (by omega)).1) ?_
            refine jx_ifB_eq 154 dX11_buryOn_70 (by decide) (fun h70 => ?_) (fun h70 => ?_)
            · have hok : bOk I W H len p d left dt mo = false := by unfold bOk; rw [h70]; rfl
              refine jx_iinc dX11_buryOn_154 rfl (v := nI (d + 1)) (nI_1 _) (by decide) ?_
              refine jx_goto 20 dX11_buryOn_157 (by decide) ?_
              have hf2 : fstO (fun d => if bOk I W H len p d left dt mo = true then bry I W H len r (p + 1) (left - mor mo d) (upN dt p d) (upN mo d (mo d + 1)) else none) (d + 1) c = B := by
                rw [← hf]
                show _ = (match (if bOk I W H len p d left dt mo = true then _ else none) with | some x => some x | none => fstO _ (d + 1) c)
                rw [hok]; rfl
              exact jx_ls (by exact ⟨rfl, rfl, rfl, rfl, trivial⟩) (ihc (d + 1) (by omega) (by omega) hf2 K k1 k2)
            · refine jx_aload_n dX11_buryOn_73 rfl ?_
              refine jx_getR dX11_buryOn_74 flX11_136 rfl rfl (hR _ _ _ rfl) ?_
              refine jx_iload_n dX11_buryOn_77 rfl ?_
              refine jx_ialdE (d) dX11_buryOn_78 rfl (rfl) (by omega) (by omega) (hKm) ?_
              refine jx_aload_n dX11_buryOn_79 rfl ?_
              refine jx_getR dX11_buryOn_80 flX11_34 rfl rfl (hR _ _ _ rfl) ?_
              refine jx_bipush (v := 8) dX11_buryOn_83 (by decide) ?_
              refine jx_ialdE (8) dX11_buryOn_85 rfl (rfl) (by omega) (by omega) ((congrFun (hJ 1072 (by omega) (by omega)) 8).trans he8.1) ?_
              refine jx_icmpN_eq (a := (mo d)) (b := (cN (I 1072 8))) 154 dX11_buryOn_86 (by decide) (by omega) (by omega) (fun h86 => ?_) (fun h86 => ?_)
              · have hok : bOk I W H len p d left dt mo = false := by unfold bOk; rw [decide_eq_true h86]; simp
                refine jx_iinc dX11_buryOn_154 rfl (v := nI (d + 1)) (nI_1 _) (by decide) ?_
                refine jx_goto 20 dX11_buryOn_157 (by decide) ?_
                have hf2 : fstO (fun d => if bOk I W H len p d left dt mo = true then bry I W H len r (p + 1) (left - mor mo d) (upN dt p d) (upN mo d (mo d + 1)) else none) (d + 1) c = B := by
                  rw [← hf]
                  show _ = (match (if bOk I W H len p d left dt mo = true then _ else none) with | some x => some x | none => fstO _ (d + 1) c)
                  rw [hok]; rfl
                exact jx_ls (by exact ⟨rfl, rfl, rfl, rfl, trivial⟩) (ihc (d + 1) (by omega) (by omega) hf2 K k1 k2)
              · refine jx_iload dX11_buryOn_89 rfl ?_
                refine jx_iload_n dX11_buryOn_91 rfl ?_
                refine jx_icmpN_gt (a := 0) (b := left) 154 dX11_buryOn_92 (by decide) (by omega) (by omega) (fun h92 => ?_) (fun h92 => ?_)
                · have hok : bOk I W H len p d left dt mo = false := by unfold bOk; rw [show decide (left < mor mo d) = true from decide_eq_true (by unfold mor; split <;> omega)]; simp
                  refine jx_iinc dX11_buryOn_154 rfl (v := nI (d + 1)) (nI_1 _) (by decide) ?_
                  refine jx_goto 20 dX11_buryOn_157 (by decide) ?_
                  have hf2 : fstO (fun d => if bOk I W H len p d left dt mo = true then bry I W H len r (p + 1) (left - mor mo d) (upN dt p d) (upN mo d (mo d + 1)) else none) (d + 1) c = B := by
                    rw [← hf]
                    show _ = (match (if bOk I W H len p d left dt mo = true then _ else none) with | some x => some x | none => fstO _ (d + 1) c)
                    rw [hok]; rfl
                  exact jx_ls (by exact ⟨rfl, rfl, rfl, rfl, trivial⟩) (ihc (d + 1) (by omega) (by omega) hf2 K k1 k2)
                · refine jx_aload_n dX11_buryOn_95 rfl ?_
                  refine jx_iload_n dX11_buryOn_96 rfl ?_
                  refine jx_iload_n dX11_buryOn_97 rfl ?_
                  refine jx_Vi (as := [.int _, .int _]) dX11_buryOn_98 mlX11_485 okX11_quarrelsOn viX11_quarrelsOn rfl rfl rfl rfl rfl (by omega) (Nat.le_of_ble_eq_true rfl) (tX11_quarrelsOn hW hR hI hJ hpn (dt := dt) (fun k hk => ⟨(k2 k hk).trans (hdt k hk).1, (hdt k hk).2⟩) (by omega)) ?_
                  refine jx_ifB_eq 107 dX11_buryOn_101 (by decide) (fun h101 => ?_) (fun h101 => ?_)
                  · have hmr : mor mo d = 0 := by unfold mor; first | rw [if_pos h49] | rw [if_neg h49]
                    have hok : bOk I W H len p d left dt mo = true := by
                      unfold bOk
                      rw [h70, decide_eq_false h86, hmr, decide_eq_false (by omega : ¬ left < 0), show bQu I p d dt = false from h101]; rfl
                    have hf1 : (match bry I W H len r (p + 1) (left - 0) (upN dt p d) (upN mo d (mo d + 1)) with | some x => some x | none => fstO (fun d => if bOk I W H len p d left dt mo = true then bry I W H len r (p + 1) (left - mor mo d) (upN dt p d) (upN mo d (mo d + 1)) else none) (d + 1) c) = B := by
                      rw [← hf]
                      show _ = (match (if bOk I W H len p d left dt mo = true then bry I W H len r (p + 1) (left - mor mo d) (upN dt p d) (upN mo d (mo d + 1)) else none) with | some x => some x | none => fstO _ (d + 1) c)
                      rw [hok, hmr]; rfl
                    have j1 : ∀ b j, b ≠ 1101 → b ≠ 1103 → (upI (upI K 1101 p (nI d)) 1103 d (nI (mo d + 1))) b j = J b j := fun b j q1 q2 => (upI_nea' q2).trans ((upI_nea' q1).trans (k1 b j q1))
                    have g1 : kp I (upI (upI K 1101 p (nI d)) 1103 d (nI (mo d + 1))) := kp_t hkp (fun a q1 q2 => funext fun j => j1 a j (by omega) (by omega))
                    have g2 : DYs I (upI (upI K 1101 p (nI d)) 1103 d (nI (mo d + 1))) W H len (41 * np) := fun p' d' q1 q2 => by
                      rw [j1 1099 _ (by decide) (by decide), j1 1100 _ (by decide) (by decide)]; exact hdy p' d' q1 q2
                    have g3 : ∀ k, k < p + 1 → (upI (upI K 1101 p (nI d)) 1103 d (nI (mo d + 1))) 1101 k = nI (upN dt p d k) ∧ upN dt p d k ≤ 40 := fun k hk => by
                      rw [upI_nea' (by decide)]
                      unfold upN
                      by_cases e : k = p
                      · rw [if_pos e, e, upI_s]; exact ⟨rfl, by omega⟩
                      · rw [if_neg e, upI_j e, k2 k (by omega)]; exact hdt k (by omega)
                    have g4 : ∀ d', d' ≤ 40 → (upI (upI K 1101 p (nI d)) 1103 d (nI (mo d + 1))) 1103 d' = nI (upN mo d (mo d + 1) d') ∧ upN mo d (mo d + 1) d' ≤ p + 1 := fun d' hd' => by
                      unfold upN
                      by_cases e : d' = d
                      · rw [if_pos e, e, upI_s]; exact ⟨rfl, by omega⟩
                      · rw [if_neg e, upI_j e, upI_nea' (by decide), k1 1103 d' (by decide)]
                        have := hmo d' hd'
                        exact ⟨this.1, by omega⟩
                    refine jx_aload_n dX11_buryOn_107 rfl ?_
                    refine jx_getR dX11_buryOn_108 flX11_130 rfl rfl (hR _ _ _ rfl) ?_
                    refine jx_iload_n dX11_buryOn_111 rfl ?_
                    refine jx_iload_n dX11_buryOn_112 rfl ?_
                    refine jx_iastN (p) dX11_buryOn_113 rfl (rfl) (by omega) (by omega) ?_
                    refine jx_aload_n dX11_buryOn_114 rfl ?_
                    refine jx_getR dX11_buryOn_115 flX11_136 rfl rfl (hR _ _ _ rfl) ?_
                    refine jx_iload_n dX11_buryOn_118 rfl ?_
                    refine jx_dup2 dX11_buryOn_119 rfl rfl ?_
                    refine jx_ialdE (d) dX11_buryOn_120 rfl (rfl) (by omega) (by omega) ((upI_nea' (by decide)).trans hKm) ?_
                    refine jx_iconst (v := 1) dX11_buryOn_121 (by decide) ?_
                    refine jx_iaddE (z := nI ((mo d) + 1)) dX11_buryOn_122 (nI_add (mo d) 1) ?_
                    refine jx_iastN (d) dX11_buryOn_123 rfl (rfl) (by omega) (by omega) ?_
                    refine jx_aload_n dX11_buryOn_124 rfl ?_
                    refine jx_iload_n dX11_buryOn_125 rfl ?_
                    refine jx_iconst (v := 1) dX11_buryOn_126 (by decide) ?_
                    refine jx_iaddE (z := nI (p + 1)) dX11_buryOn_127 (nI_add p 1) ?_
                    refine jx_iload_n dX11_buryOn_128 rfl ?_
                    refine jx_iload dX11_buryOn_129 rfl ?_
                    refine jx_isubE (z := nI (left - 0)) dX11_buryOn_131 (pk_sub (a := left) (b := 0) (by omega)) ?_
                    refine jx_VRi (as := [.int _, .int _]) dX11_buryOn_132 mlX11_488 okX11_buryOn viX11_buryOn rfl rfl rfl rfl rfl (by omega) (Nat.le_of_ble_eq_true rfl) (ih (p + 1) (left - 0) (upN dt p d) (upN mo d (mo d + 1)) _ (by omega) g1 g2 g3 g4 (by omega)) (fun x132 t132 hq132 => ?_)
                    obtain ⟨rfl, K2, rfl, m1, m2, m3⟩ := hq132
                    have n1 : ∀ b j, b ≠ 1101 → upI K2 1103 d (nI (mo d)) b j = J b j := fun b j q1 => by
                      by_cases e : b = 1103 ∧ j = d
                      · rw [e.1, e.2, upI_s]; exact hmd.1.symm
                      · have e2 : upI K2 1103 d (nI (mo d)) b j = K2 b j := by simp [upI, e]
                        rw [e2, m1 b j q1]
                        have e3 : upI (upI K 1101 p (nI d)) 1103 d (nI (mo d + 1)) b j = upI K 1101 p (nI d) b j := by
                          unfold upI; rw [if_neg e]
                        rw [e3, upI_nea' q1]; exact k1 b j q1
                    have n2 : ∀ k, k < p → upI K2 1103 d (nI (mo d)) 1101 k = J 1101 k := fun k hk => by
                      rw [upI_nea' (by decide), m2 k (by omega), upI_nea' (by decide), upI_j (by omega)]; exact k2 k hk
                    refine jx_istore dX11_buryOn_135 (by decide) ?_
                    refine jx_aload_n dX11_buryOn_137 rfl ?_
                    refine jx_getR dX11_buryOn_138 flX11_136 rfl rfl (hR _ _ _ rfl) ?_
                    refine jx_iload_n dX11_buryOn_141 rfl ?_
                    refine jx_dup2 dX11_buryOn_142 rfl rfl ?_
                    refine jx_ialdE (d) dX11_buryOn_143 rfl (rfl) (by omega) (by omega) ((m1 1103 d (by decide)).trans upI_s) ?_
                    refine jx_iconst (v := 1) dX11_buryOn_144 (by decide) ?_
                    refine jx_isubE (z := nI (mo d)) dX11_buryOn_145 (pk_sub (a := mo d + 1) (b := 1) (by omega)) ?_
                    refine jx_iastN (d) dX11_buryOn_146 rfl (rfl) (by omega) (by omega) ?_
                    refine jx_iload dX11_buryOn_147 rfl ?_
                    refine jx_ifB_eq 154 dX11_buryOn_149 (by decide) (fun h149 => ?_) (fun h149 => ?_)
                    · refine jx_iinc dX11_buryOn_154 rfl (v := nI (d + 1)) (nI_1 _) (by decide) ?_
                      refine jx_goto 20 dX11_buryOn_157 (by decide) ?_
                      have hn : bry I W H len r (p + 1) (left - 0) (upN dt p d) (upN mo d (mo d + 1)) = none := by
                        cases hz : bry I W H len r (p + 1) (left - 0) (upN dt p d) (upN mo d (mo d + 1)) with
                        | none => rfl
                        | some x => rw [hz] at h149; cases h149
                      have hf2 : fstO (fun d => if bOk I W H len p d left dt mo = true then bry I W H len r (p + 1) (left - mor mo d) (upN dt p d) (upN mo d (mo d + 1)) else none) (d + 1) c = B := by rw [← hf1, hn]
                      exact jx_ls (by exact ⟨rfl, rfl, rfl, rfl, trivial⟩) (ihc (d + 1) (by omega) (by omega) hf2 _ n1 n2)
                    · refine jx_iconst (v := 1) dX11_buryOn_152 (by decide) ?_
                      refine jx_zret dX11_buryOn_153 rfl ?_ ?_
                      · first | exact Or.inl rfl | exact Or.inr rfl | exact jb_or _
                      cases hz : bry I W H len r (p + 1) (left - 0) (upN dt p d) (upN mo d (mo d + 1)) with
                      | none => rw [hz] at h149; cases h149
                      | some x =>
                        have hBs : B = some x := by rw [← hf1, hz]
                        refine ⟨_, rfl, ?_, _, rfl, n1, n2, fun res hr k hk => ?_⟩
                        · rw [hBs]; rfl
                        · rw [hBs] at hr
                          cases hr
                          rw [upI_nea' (by decide)]
                          exact m3 x hz k hk
                  · have hok : bOk I W H len p d left dt mo = false := by unfold bOk; rw [show bQu I p d dt = true from h101]; simp
                    refine jx_goto 154 dX11_buryOn_104 (by decide) ?_
                    refine jx_iinc dX11_buryOn_154 rfl (v := nI (d + 1)) (nI_1 _) (by decide) ?_
                    refine jx_goto 20 dX11_buryOn_157 (by decide) ?_
                    have hf2 : fstO (fun d => if bOk I W H len p d left dt mo = true then bry I W H len r (p + 1) (left - mor mo d) (upN dt p d) (upN mo d (mo d + 1)) else none) (d + 1) c = B := by
                      rw [← hf]
                      show _ = (match (if bOk I W H len p d left dt mo = true then _ else none) with | some x => some x | none => fstO _ (d + 1) c)
                      rw [hok]; rfl
                    exact jx_ls (by exact ⟨rfl, rfl, rfl, rfl, trivial⟩) (ihc (d + 1) (by omega) (by omega) hf2 K k1 k2)
          · refine jx_iconst (v := 1) dX11_buryOn_52 (by decide) ?_
            refine jx_goto 57 dX11_buryOn_53 (by decide) ?_
            refine jx_istore dX11_buryOn_57 (by decide) ?_
            refine jx_aload_n dX11_buryOn_59 rfl ?_
            refine jx_getR dX11_buryOn_60 flX11_124 rfl rfl (hR _ _ _ rfl) ?_
            refine jx_bipush (v := 41) dX11_buryOn_63 (by decide) ?_
            refine jx_iload_n dX11_buryOn_65 rfl ?_
            refine jx_imulE (z := nI (41 * p)) dX11_buryOn_66 (pk_mul 41 p) ?_
            refine jx_iload_n dX11_buryOn_67 rfl ?_
            refine jx_iaddE (z := nI ((41 * p) + d)) dX11_buryOn_68 (nI_add (41 * p) d) ?_
            refine jx_zaldE ((41 * p) + d) dX11_buryOn_69 rfl (rfl) (by omega) (by omega) ((k1 1099 _ (by decide)).trans (hdy p d (by omega) (by omega)).1) ?_
            refine jx_ifB_eq 154 dX11_buryOn_70 (by decide) (fun h70 => ?_) (fun h70 => ?_)
            · have hok : bOk I W H len p d left dt mo = false := by unfold bOk; rw [h70]; rfl
              refine jx_iinc dX11_buryOn_154 rfl (v := nI (d + 1)) (nI_1 _) (by decide) ?_
              refine jx_goto 20 dX11_buryOn_157 (by decide) ?_
              have hf2 : fstO (fun d => if bOk I W H len p d left dt mo = true then bry I W H len r (p + 1) (left - mor mo d) (upN dt p d) (upN mo d (mo d + 1)) else none) (d + 1) c = B := by
                rw [← hf]
                show _ = (match (if bOk I W H len p d left dt mo = true then _ else none) with | some x => some x | none => fstO _ (d + 1) c)
                rw [hok]; rfl
              exact jx_ls (by exact ⟨rfl, rfl, rfl, rfl, trivial⟩) (ihc (d + 1) (by omega) (by omega) hf2 K k1 k2)
            · refine jx_aload_n dX11_buryOn_73 rfl ?_
              refine jx_getR dX11_buryOn_74 flX11_136 rfl rfl (hR _ _ _ rfl) ?_
              refine jx_iload_n dX11_buryOn_77 rfl ?_
              refine jx_ialdE (d) dX11_buryOn_78 rfl (rfl) (by omega) (by omega) (hKm) ?_
              refine jx_aload_n dX11_buryOn_79 rfl ?_
              refine jx_getR dX11_buryOn_80 flX11_34 rfl rfl (hR _ _ _ rfl) ?_
              refine jx_bipush (v := 8) dX11_buryOn_83 (by decide) ?_
              refine jx_ialdE (8) dX11_buryOn_85 rfl (rfl) (by omega) (by omega) ((congrFun (hJ 1072 (by omega) (by omega)) 8).trans he8.1) ?_
              refine jx_icmpN_eq (a := (mo d)) (b := (cN (I 1072 8))) 154 dX11_buryOn_86 (by decide) (by omega) (by omega) (fun h86 => ?_) (fun h86 => ?_)
              · have hok : bOk I W H len p d left dt mo = false := by unfold bOk; rw [decide_eq_true h86]; simp
                refine jx_iinc dX11_buryOn_154 rfl (v := nI (d + 1)) (nI_1 _) (by decide) ?_
                refine jx_goto 20 dX11_buryOn_157 (by decide) ?_
                have hf2 : fstO (fun d => if bOk I W H len p d left dt mo = true then bry I W H len r (p + 1) (left - mor mo d) (upN dt p d) (upN mo d (mo d + 1)) else none) (d + 1) c = B := by
                  rw [← hf]
                  show _ = (match (if bOk I W H len p d left dt mo = true then _ else none) with | some x => some x | none => fstO _ (d + 1) c)
                  rw [hok]; rfl
                exact jx_ls (by exact ⟨rfl, rfl, rfl, rfl, trivial⟩) (ihc (d + 1) (by omega) (by omega) hf2 K k1 k2)
              · refine jx_iload dX11_buryOn_89 rfl ?_
                refine jx_iload_n dX11_buryOn_91 rfl ?_
                refine jx_icmpN_gt (a := 1) (b := left) 154 dX11_buryOn_92 (by decide) (by omega) (by omega) (fun h92 => ?_) (fun h92 => ?_)
                · have hok : bOk I W H len p d left dt mo = false := by unfold bOk; rw [show decide (left < mor mo d) = true from decide_eq_true (by unfold mor; split <;> omega)]; simp
                  refine jx_iinc dX11_buryOn_154 rfl (v := nI (d + 1)) (nI_1 _) (by decide) ?_
                  refine jx_goto 20 dX11_buryOn_157 (by decide) ?_
                  have hf2 : fstO (fun d => if bOk I W H len p d left dt mo = true then bry I W H len r (p + 1) (left - mor mo d) (upN dt p d) (upN mo d (mo d + 1)) else none) (d + 1) c = B := by
                    rw [← hf]
                    show _ = (match (if bOk I W H len p d left dt mo = true then _ else none) with | some x => some x | none => fstO _ (d + 1) c)
                    rw [hok]; rfl
                  exact jx_ls (by exact ⟨rfl, rfl, rfl, rfl, trivial⟩) (ihc (d + 1) (by omega) (by omega) hf2 K k1 k2)
                · refine jx_aload_n dX11_buryOn_95 rfl ?_
                  refine jx_iload_n dX11_buryOn_96 rfl ?_
                  refine jx_iload_n dX11_buryOn_97 rfl ?_
                  refine jx_Vi (as := [.int _, .int _]) dX11_buryOn_98 mlX11_485 okX11_quarrelsOn viX11_quarrelsOn rfl rfl rfl rfl rfl (by omega) (Nat.le_of_ble_eq_true rfl) (tX11_quarrelsOn hW hR hI hJ hpn (dt := dt) (fun k hk => ⟨(k2 k hk).trans (hdt k hk).1, (hdt k hk).2⟩) (by omega)) ?_
                  refine jx_ifB_eq 107 dX11_buryOn_101 (by decide) (fun h101 => ?_) (fun h101 => ?_)
                  · have hmr : mor mo d = 1 := by unfold mor; first | rw [if_pos h49] | rw [if_neg h49]
                    have hok : bOk I W H len p d left dt mo = true := by
                      unfold bOk
                      rw [h70, decide_eq_false h86, hmr, decide_eq_false (by omega : ¬ left < 1), show bQu I p d dt = false from h101]; rfl
                    have hf1 : (match bry I W H len r (p + 1) (left - 1) (upN dt p d) (upN mo d (mo d + 1)) with | some x => some x | none => fstO (fun d => if bOk I W H len p d left dt mo = true then bry I W H len r (p + 1) (left - mor mo d) (upN dt p d) (upN mo d (mo d + 1)) else none) (d + 1) c) = B := by
                      rw [← hf]
                      show _ = (match (if bOk I W H len p d left dt mo = true then bry I W H len r (p + 1) (left - mor mo d) (upN dt p d) (upN mo d (mo d + 1)) else none) with | some x => some x | none => fstO _ (d + 1) c)
                      rw [hok, hmr]; rfl
                    have j1 : ∀ b j, b ≠ 1101 → b ≠ 1103 → (upI (upI K 1101 p (nI d)) 1103 d (nI (mo d + 1))) b j = J b j := fun b j q1 q2 => (upI_nea' q2).trans ((upI_nea' q1).trans (k1 b j q1))
                    have g1 : kp I (upI (upI K 1101 p (nI d)) 1103 d (nI (mo d + 1))) := kp_t hkp (fun a q1 q2 => funext fun j => j1 a j (by omega) (by omega))
                    have g2 : DYs I (upI (upI K 1101 p (nI d)) 1103 d (nI (mo d + 1))) W H len (41 * np) := fun p' d' q1 q2 => by
                      rw [j1 1099 _ (by decide) (by decide), j1 1100 _ (by decide) (by decide)]; exact hdy p' d' q1 q2
                    have g3 : ∀ k, k < p + 1 → (upI (upI K 1101 p (nI d)) 1103 d (nI (mo d + 1))) 1101 k = nI (upN dt p d k) ∧ upN dt p d k ≤ 40 := fun k hk => by
                      rw [upI_nea' (by decide)]
                      unfold upN
                      by_cases e : k = p
                      · rw [if_pos e, e, upI_s]; exact ⟨rfl, by omega⟩
                      · rw [if_neg e, upI_j e, k2 k (by omega)]; exact hdt k (by omega)
                    have g4 : ∀ d', d' ≤ 40 → (upI (upI K 1101 p (nI d)) 1103 d (nI (mo d + 1))) 1103 d' = nI (upN mo d (mo d + 1) d') ∧ upN mo d (mo d + 1) d' ≤ p + 1 := fun d' hd' => by
                      unfold upN
                      by_cases e : d' = d
                      · rw [if_pos e, e, upI_s]; exact ⟨rfl, by omega⟩
                      · rw [if_neg e, upI_j e, upI_nea' (by decide), k1 1103 d' (by decide)]
                        have := hmo d' hd'
                        exact ⟨this.1, by omega⟩
                    refine jx_aload_n dX11_buryOn_107 rfl ?_
                    refine jx_getR dX11_buryOn_108 flX11_130 rfl rfl (hR _ _ _ rfl) ?_
                    refine jx_iload_n dX11_buryOn_111 rfl ?_
                    refine jx_iload_n dX11_buryOn_112 rfl ?_
                    refine jx_iastN (p) dX11_buryOn_113 rfl (rfl) (by omega) (by omega) ?_
                    refine jx_aload_n dX11_buryOn_114 rfl ?_
                    refine jx_getR dX11_buryOn_115 flX11_136 rfl rfl (hR _ _ _ rfl) ?_
                    refine jx_iload_n dX11_buryOn_118 rfl ?_
                    refine jx_dup2 dX11_buryOn_119 rfl rfl ?_
                    refine jx_ialdE (d) dX11_buryOn_120 rfl (rfl) (by omega) (by omega) ((upI_nea' (by decide)).trans hKm) ?_
                    refine jx_iconst (v := 1) dX11_buryOn_121 (by decide) ?_
                    refine jx_iaddE (z := nI ((mo d) + 1)) dX11_buryOn_122 (nI_add (mo d) 1) ?_
                    refine jx_iastN (d) dX11_buryOn_123 rfl (rfl) (by omega) (by omega) ?_
                    refine jx_aload_n dX11_buryOn_124 rfl ?_
                    refine jx_iload_n dX11_buryOn_125 rfl ?_
                    refine jx_iconst (v := 1) dX11_buryOn_126 (by decide) ?_
                    refine jx_iaddE (z := nI (p + 1)) dX11_buryOn_127 (nI_add p 1) ?_
                    refine jx_iload_n dX11_buryOn_128 rfl ?_
                    refine jx_iload dX11_buryOn_129 rfl ?_
                    refine jx_isubE (z := nI (left - 1)) dX11_buryOn_131 (pk_sub (a := left) (b := 1) (by omega)) ?_
                    refine jx_VRi (as := [.int _, .int _]) dX11_buryOn_132 mlX11_488 okX11_buryOn viX11_buryOn rfl rfl rfl rfl rfl (by omega) (Nat.le_of_ble_eq_true rfl) (ih (p + 1) (left - 1) (upN dt p d) (upN mo d (mo d + 1)) _ (by omega) g1 g2 g3 g4 (by omega)) (fun x132 t132 hq132 => ?_)
                    obtain ⟨rfl, K2, rfl, m1, m2, m3⟩ := hq132
                    have n1 : ∀ b j, b ≠ 1101 → upI K2 1103 d (nI (mo d)) b j = J b j := fun b j q1 => by
                      by_cases e : b = 1103 ∧ j = d
                      · rw [e.1, e.2, upI_s]; exact hmd.1.symm
                      · have e2 : upI K2 1103 d (nI (mo d)) b j = K2 b j := by simp [upI, e]
                        rw [e2, m1 b j q1]
                        have e3 : upI (upI K 1101 p (nI d)) 1103 d (nI (mo d + 1)) b j = upI K 1101 p (nI d) b j := by
                          unfold upI; rw [if_neg e]
                        rw [e3, upI_nea' q1]; exact k1 b j q1
                    have n2 : ∀ k, k < p → upI K2 1103 d (nI (mo d)) 1101 k = J 1101 k := fun k hk => by
                      rw [upI_nea' (by decide), m2 k (by omega), upI_nea' (by decide), upI_j (by omega)]; exact k2 k hk
                    refine jx_istore dX11_buryOn_135 (by decide) ?_
                    refine jx_aload_n dX11_buryOn_137 rfl ?_
                    refine jx_getR dX11_buryOn_138 flX11_136 rfl rfl (hR _ _ _ rfl) ?_
                    refine jx_iload_n dX11_buryOn_141 rfl ?_
                    refine jx_dup2 dX11_buryOn_142 rfl rfl ?_
                    refine jx_ialdE (d) dX11_buryOn_143 rfl (rfl) (by omega) (by omega) ((m1 1103 d (by decide)).trans upI_s) ?_
                    refine jx_iconst (v := 1) dX11_buryOn_144 (by decide) ?_
                    refine jx_isubE (z := nI (mo d)) dX11_buryOn_145 (pk_sub (a := mo d + 1) (b := 1) (by omega)) ?_
                    refine jx_iastN (d) dX11_buryOn_146 rfl (rfl) (by omega) (by omega) ?_
                    refine jx_iload dX11_buryOn_147 rfl ?_
                    refine jx_ifB_eq 154 dX11_buryOn_149 (by decide) (fun h149 => ?_) (fun h149 => ?_)
                    · refine jx_iinc dX11_buryOn_154 rfl (v := nI (d + 1)) (nI_1 _) (by decide) ?_
                      refine jx_goto 20 dX11_buryOn_157 (by decide) ?_
                      have hn : bry I W H len r (p + 1) (left - 1) (upN dt p d) (upN mo d (mo d + 1)) = none := by
                        cases hz : bry I W H len r (p + 1) (left - 1) (upN dt p d) (upN mo d (mo d + 1)) with
                        | none => rfl
                        | some x => rw [hz] at h149; cases h149
                      have hf2 : fstO (fun d => if bOk I W H len p d left dt mo = true then bry I W H len r (p + 1) (left - mor mo d) (upN dt p d) (upN mo d (mo d + 1)) else none) (d + 1) c = B := by rw [← hf1, hn]
                      exact jx_ls (by exact ⟨rfl, rfl, rfl, rfl, trivial⟩) (ihc (d + 1) (by omega) (by omega) hf2 _ n1 n2)
                    · refine jx_iconst (v := 1) dX11_buryOn_152 (by decide) ?_
                      refine jx_zret dX11_buryOn_153 rfl ?_ ?_
                      · first | exact Or.inl rfl | exact Or.inr rfl | exact jb_or _
                      cases hz : bry I W H len r (p + 1) (left - 1) (upN dt p d) (upN mo d (mo d + 1)) with
                      | none => rw [hz] at h149; cases h149
                      | some x =>
                        have hBs : B = some x := by rw [← hf1, hz]
                        refine ⟨_, rfl, ?_, _, rfl, n1, n2, fun res hr k hk => ?_⟩
                        · rw [hBs]; rfl
                        · rw [hBs] at hr
                          cases hr
                          rw [upI_nea' (by decide)]
                          exact m3 x hz k hk
                  · have hok : bOk I W H len p d left dt mo = false := by unfold bOk; rw [show bQu I p d dt = true from h101]; simp
                    refine jx_goto 154 dX11_buryOn_104 (by decide) ?_
                    refine jx_iinc dX11_buryOn_154 rfl (v := nI (d + 1)) (nI_1 _) (by decide) ?_
                    refine jx_goto 20 dX11_buryOn_157 (by decide) ?_
                    have hf2 : fstO (fun d => if bOk I W H len p d left dt mo = true then bry I W H len r (p + 1) (left - mor mo d) (upN dt p d) (upN mo d (mo d + 1)) else none) (d + 1) c = B := by
                      rw [← hf]
                      show _ = (match (if bOk I W H len p d left dt mo = true then _ else none) with | some x => some x | none => fstO _ (d + 1) c)
                      rw [hok]; rfl
                    exact jx_ls (by exact ⟨rfl, rfl, rfl, rfl, trivial⟩) (ihc (d + 1) (by omega) (by omega) hf2 K k1 k2)
    refine jx_iload_n dX11_buryOn_0 rfl ?_
    refine jx_aload_n dX11_buryOn_1 rfl ?_
    refine jx_getR dX11_buryOn_2 flX11_34 rfl rfl (hR _ _ _ rfl) ?_
    refine jx_bipush (v := 10) dX11_buryOn_5 (by decide) ?_
    refine jx_ialdE (10) dX11_buryOn_7 rfl (rfl) (by omega) (by omega) ((congrFun (hkp 1072 (by omega) (by omega)) 10).trans hI.2.2.2.2.1.1) ?_
    refine jx_icmpN_ne (a := p) (b := np) 13 dX11_buryOn_8 (by decide) (by omega) (by omega) (fun h8 => ?_) (fun h8 => ?_)
    · refine jx_aload_n dX11_buryOn_13 rfl ?_
      refine jx_getR dX11_buryOn_14 flX11_59 rfl rfl (hR _ _ _ rfl) ?_
      refine jx_iload_n dX11_buryOn_17 rfl ?_
      refine jx_ialdE (p) dX11_buryOn_18 rfl (rfl) (by omega) (by omega) ((congrFun (hkp 1080 (by omega) (by omega)) p).trans hk5.1) ?_
      refine jx_istore_n dX11_buryOn_19 rfl (by decide) ?_
      exact jx_ls (by exact ⟨rfl, rfl, rfl, rfl, trivial⟩) (key _ _ (by omega) (Nat.le_refl _) hB.symm J (fun _ _ _ => rfl) (fun _ _ => rfl))
    · exfalso; omega
end RT2
