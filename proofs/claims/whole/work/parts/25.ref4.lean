/-! THE REFERENCE: who may be where, how soon one comes over -/
def qq (I : Nat → Nat → Int32) (W H day : Nat) (c : Nat) : Bool := qOn W H (fun k => cN (I 1075 k)) day (I 1072 5).toInt (I 1072 6).toInt (cN (I 1072 4)) c
def hgt (I : Nat → Nat → Int32) (c : Nat) : Nat := cN (I 1073 c)
def wht (I : Nat → Nat → Int32) (c : Nat) : Nat := cN (I 1074 c)
def aI (v : Nat) : Int32 := if v = 1000 then -1 else nI v
def paceOf (kind speed fog : Nat) : Nat := (if kind = 3 then (speed + 1) / 2 else speed) + fog
theorem qq_kp {I J : Nat → Nat → Int32} (h : kp I J) (W H day : Nat) : qq J W H day = qq I W H day := by
  funext c; unfold qq; rw [h 1072 (by omega) (by omega), h 1075 (by omega) (by omega)]
theorem hgt_kp {I J : Nat → Nat → Int32} (h : kp I J) : hgt J = hgt I := by
  funext c; unfold hgt; rw [h 1073 (by omega) (by omega)]
theorem wht_kp {I J : Nat → Nat → Int32} (h : kp I J) : wht J = wht I := by
  funext c; unfold wht; rw [h 1074 (by omega) (by omega)]
section RD
variable {w : jWD} {l : Launch} {n : Nat} {I : Nat → Nat → Int32} {L : Nat → Nat → Int64} {R : Nat → Nat → Option Nat}
theorem tX11_isInZ (hW : jWok w l) {v : Int} {b : Nat} (h1 : -2147483648 ≤ v) (h2 : v < 2147483648) (hb : b < 2 ^ 31) (σ : jHS) : jCD w l mX11_isIn 1 [.long (zI v).toInt64, .long 0, .long (nI b).toInt64] σ (some (.int (jb (decide (0 ≤ v ∧ v ≤ b))))) σ := by
  have := tX11_isIn hW (zI v).toInt64 0 (nI b).toInt64 σ
  rw [show decide (0 ≤ (zI v).toInt64 ∧ (zI v).toInt64 ≤ (nI b).toInt64) = decide (0 ≤ v ∧ v ≤ (b : Int)) from decide_eq_decide.mpr (by rw [i64_0, i64_le, nI_toInt hb, zI_toInt h1 h2])] at this
  exact this

set_option maxHeartbeats 1000000 in
set_option maxRecDepth 20000 in
theorem tX11_mayBe (hW : jWok w l) (hR : RS R) {W H : Nat} (hT : MT I W H) {hgt wh : Nat → Nat} {q : Nat → Bool} {lev kind load c tick : Nat} (hc : c < W * H) (ht : tick < 96) (hk : kind ≤ 3) (hl : load ≤ 9) (h1 : I 1074 c = nI (wh c)) (h1b : wh c ≤ 2) (h2 : I 1073 c = nI (hgt c)) (h2b : hgt c ≤ 9) (h3 : I 1088 tick = nI lev) (h3b : lev ≤ 20) (h4 : I 1089 c = jb (q c))  : jCD w l mX11_mayBe 2 [.ref 1069, .int (nI kind), .int (nI load), .int (nI c), .int (nI tick)] (n, shE, I, L, R) (some (.int (jb (mayQ W hgt wh q lev kind load c)))) (n, shE, I, L, R) := by
  refine jCD_of hW (by decide) rfl (Nat.le_of_ble_eq_true rfl) ?_
  have hz := hT.wh
  have hw3 := hT.2.2.1
  have hw9 := hT.2.2.2.1
  have hh1 := hT.2.2.2.2.1
  have hh7 := hT.2.2.2.2.2
  refine jx_aload_n dX11_mayBe_0 rfl ?_
  refine jx_iload_n dX11_mayBe_1 rfl ?_
  refine jx_Vi (as := [.int _]) dX11_mayBe_2 mlX11_393 okX11_isShore viX11_isShore rfl rfl rfl rfl rfl (by decide) (Nat.le_of_ble_eq_true rfl) (tX11_isShore hW hR hT (by omega)) ?_
  refine jx_ifB_ne 25 dX11_mayBe_5 (by decide) (fun h5 => ?_) (fun h5 => ?_)
  · refine jx_iconst (v := 1) dX11_mayBe_25 (by decide) ?_
    refine jx_zret dX11_mayBe_26 rfl ?_ ?_
    · first | exact Or.inl rfl | exact Or.inr rfl | exact jb_or _
    refine ⟨?_, rfl⟩
    have e : mayQ W hgt wh q lev kind load c = true := by
      unfold mayQ
      first | (simp_all; done) | (simp_all; omega)
    rw [e]; rfl
  · refine jx_aload_n dX11_mayBe_8 rfl ?_
    refine jx_iload_n dX11_mayBe_9 rfl ?_
    refine jx_Vi (as := [.int _]) dX11_mayBe_10 mlX11_396 okX11_isIsland viX11_isIsland rfl rfl rfl rfl rfl (by decide) (Nat.le_of_ble_eq_true rfl) (tX11_isIsland hW hR hT (by omega)) ?_
    refine jx_ifB_ne 25 dX11_mayBe_13 (by decide) (fun h13 => ?_) (fun h13 => ?_)
    · refine jx_iconst (v := 1) dX11_mayBe_25 (by decide) ?_
      refine jx_zret dX11_mayBe_26 rfl ?_ ?_
      · first | exact Or.inl rfl | exact Or.inr rfl | exact jb_or _
      refine ⟨?_, rfl⟩
      have e : mayQ W hgt wh q lev kind load c = true := by
        unfold mayQ
        first | (simp_all; done) | (simp_all; omega)
      rw [e]; rfl
    · refine jx_aload_n dX11_mayBe_16 rfl ?_
      refine jx_getR dX11_mayBe_17 flX11_41 rfl rfl (hR _ _ _ rfl) ?_
      refine jx_iload_n dX11_mayBe_20 rfl ?_
      refine jx_ialdE (c) dX11_mayBe_21 rfl (rfl) (by omega) (by omega) (h1) ?_
      refine jx_ifN_eq (a := (wh c)) 27 dX11_mayBe_22 (by decide) (by omega) (fun h22 => ?_) (fun h22 => ?_)
      · refine jx_aload_n dX11_mayBe_27 rfl ?_
        refine jx_getR dX11_mayBe_28 flX11_88 rfl rfl (hR _ _ _ rfl) ?_
        refine jx_iload dX11_mayBe_31 rfl ?_
        refine jx_ialdE (tick) dX11_mayBe_33 rfl (rfl) (by omega) (by omega) (h3) ?_
        refine jx_aload_n dX11_mayBe_34 rfl ?_
        refine jx_getR dX11_mayBe_35 flX11_38 rfl rfl (hR _ _ _ rfl) ?_
        refine jx_iload_n dX11_mayBe_38 rfl ?_
        refine jx_ialdE (c) dX11_mayBe_39 rfl (rfl) (by omega) (by omega) (h2) ?_
        refine jx_iload_n dX11_mayBe_40 rfl ?_
        refine jx_iconst (v := 2) dX11_mayBe_41 (by decide) ?_
        refine jx_icmpN_ne (a := kind) (b := 2) 49 dX11_mayBe_42 (by decide) (by omega) (by omega) (fun h42 => ?_) (fun h42 => ?_)
        · refine jx_iconst (v := 0) dX11_mayBe_49 (by decide) ?_
          refine jx_iaddE (z := nI ((hgt c) + 0)) dX11_mayBe_50 (nI_add (hgt c) 0) ?_
          refine jx_icmpN_ge (a := lev) (b := ((hgt c) + 0)) 67 dX11_mayBe_51 (by decide) (by omega) (by omega) (fun h51 => ?_) (fun h51 => ?_)
          · refine jx_iconst (v := 0) dX11_mayBe_67 (by decide) ?_
            refine jx_zret dX11_mayBe_68 rfl ?_ ?_
            · first | exact Or.inl rfl | exact Or.inr rfl | exact jb_or _
            refine ⟨?_, rfl⟩
            have e : mayQ W hgt wh q lev kind load c = false := by
              unfold mayQ
              first | (simp_all; done) | (simp_all; omega)
            rw [e]; rfl
          · refine jx_iload_n dX11_mayBe_54 rfl ?_
            refine jx_ifN_le (a := load) 69 dX11_mayBe_55 (by decide) (by omega) (fun h55 => ?_) (fun h55 => ?_)
            · refine jx_iload_n dX11_mayBe_69 rfl ?_
              refine jx_iconst (v := 1) dX11_mayBe_70 (by decide) ?_
              refine jx_icmpN_ne (a := kind) (b := 1) 86 dX11_mayBe_71 (by decide) (by omega) (by omega) (fun h71 => ?_) (fun h71 => ?_)
              · refine jx_iconst (v := 1) dX11_mayBe_86 (by decide) ?_
                refine jx_goto 91 dX11_mayBe_87 (by decide) ?_
                refine jx_zret dX11_mayBe_91 rfl ?_ ?_
                · first | exact Or.inl rfl | exact Or.inr rfl | exact jb_or _
                refine ⟨?_, rfl⟩
                have e : mayQ W hgt wh q lev kind load c = true := by
                  unfold mayQ
                  first | (simp_all; done) | (simp_all; omega)
                rw [e]; rfl
              · refine jx_iload_n dX11_mayBe_74 rfl ?_
                refine jx_aload_n dX11_mayBe_75 rfl ?_
                refine jx_getR dX11_mayBe_76 flX11_38 rfl rfl (hR _ _ _ rfl) ?_
                refine jx_iload_n dX11_mayBe_79 rfl ?_
                refine jx_ialdE (c) dX11_mayBe_80 rfl (rfl) (by omega) (by omega) (h2) ?_
                refine jx_iconst (v := 2) dX11_mayBe_81 (by decide) ?_
                refine jx_iaddE (z := nI ((hgt c) + 2)) dX11_mayBe_82 (nI_add (hgt c) 2) ?_
                refine jx_icmpN_gt (a := load) (b := ((hgt c) + 2)) 90 dX11_mayBe_83 (by decide) (by omega) (by omega) (fun h83 => ?_) (fun h83 => ?_)
                · refine jx_iconst (v := 0) dX11_mayBe_90 (by decide) ?_
                  refine jx_zret dX11_mayBe_91 rfl ?_ ?_
                  · first | exact Or.inl rfl | exact Or.inr rfl | exact jb_or _
                  refine ⟨?_, rfl⟩
                  have e : mayQ W hgt wh q lev kind load c = false := by
                    unfold mayQ
                    first | (simp_all; done) | (simp_all; omega)
                  rw [e]; rfl
                · refine jx_iconst (v := 1) dX11_mayBe_86 (by decide) ?_
                  refine jx_goto 91 dX11_mayBe_87 (by decide) ?_
                  refine jx_zret dX11_mayBe_91 rfl ?_ ?_
                  · first | exact Or.inl rfl | exact Or.inr rfl | exact jb_or _
                  refine ⟨?_, rfl⟩
                  have e : mayQ W hgt wh q lev kind load c = true := by
                    unfold mayQ
                    first | (simp_all; done) | (simp_all; omega)
                  rw [e]; rfl
            · refine jx_aload_n dX11_mayBe_58 rfl ?_
              refine jx_getR dX11_mayBe_59 flX11_91 rfl rfl (hR _ _ _ rfl) ?_
              refine jx_iload_n dX11_mayBe_62 rfl ?_
              refine jx_zaldE (c) dX11_mayBe_63 rfl (rfl) (by omega) (by omega) (h4) ?_
              refine jx_ifB_eq 69 dX11_mayBe_64 (by decide) (fun h64 => ?_) (fun h64 => ?_)
              · refine jx_iload_n dX11_mayBe_69 rfl ?_
                refine jx_iconst (v := 1) dX11_mayBe_70 (by decide) ?_
                refine jx_icmpN_ne (a := kind) (b := 1) 86 dX11_mayBe_71 (by decide) (by omega) (by omega) (fun h71 => ?_) (fun h71 => ?_)
                · refine jx_iconst (v := 1) dX11_mayBe_86 (by decide) ?_
                  refine jx_goto 91 dX11_mayBe_87 (by decide) ?_
                  refine jx_zret dX11_mayBe_91 rfl ?_ ?_
                  · first | exact Or.inl rfl | exact Or.inr rfl | exact jb_or _
                  refine ⟨?_, rfl⟩
                  have e : mayQ W hgt wh q lev kind load c = true := by
                    unfold mayQ
                    first | (simp_all; done) | (simp_all; omega)
                  rw [e]; rfl
                · refine jx_iload_n dX11_mayBe_74 rfl ?_
                  refine jx_aload_n dX11_mayBe_75 rfl ?_
                  refine jx_getR dX11_mayBe_76 flX11_38 rfl rfl (hR _ _ _ rfl) ?_
                  refine jx_iload_n dX11_mayBe_79 rfl ?_
                  refine jx_ialdE (c) dX11_mayBe_80 rfl (rfl) (by omega) (by omega) (h2) ?_
                  refine jx_iconst (v := 2) dX11_mayBe_81 (by decide) ?_
                  refine jx_iaddE (z := nI ((hgt c) + 2)) dX11_mayBe_82 (nI_add (hgt c) 2) ?_
                  refine jx_icmpN_gt (a := load) (b := ((hgt c) + 2)) 90 dX11_mayBe_83 (by decide) (by omega) (by omega) (fun h83 => ?_) (fun h83 => ?_)
                  · refine jx_iconst (v := 0) dX11_mayBe_90 (by decide) ?_
                    refine jx_zret dX11_mayBe_91 rfl ?_ ?_
                    · first | exact Or.inl rfl | exact Or.inr rfl | exact jb_or _
                    refine ⟨?_, rfl⟩
                    have e : mayQ W hgt wh q lev kind load c = false := by
                      unfold mayQ
                      first | (simp_all; done) | (simp_all; omega)
                    rw [e]; rfl
                  · refine jx_iconst (v := 1) dX11_mayBe_86 (by decide) ?_
                    refine jx_goto 91 dX11_mayBe_87 (by decide) ?_
                    refine jx_zret dX11_mayBe_91 rfl ?_ ?_
                    · first | exact Or.inl rfl | exact Or.inr rfl | exact jb_or _
                    refine ⟨?_, rfl⟩
                    have e : mayQ W hgt wh q lev kind load c = true := by
                      unfold mayQ
                      first | (simp_all; done) | (simp_all; omega)
                    rw [e]; rfl
              · refine jx_iconst (v := 0) dX11_mayBe_67 (by decide) ?_
                refine jx_zret dX11_mayBe_68 rfl ?_ ?_
                · first | exact Or.inl rfl | exact Or.inr rfl | exact jb_or _
                refine ⟨?_, rfl⟩
                have e : mayQ W hgt wh q lev kind load c = false := by
                  unfold mayQ
                  first | (simp_all; done) | (simp_all; omega)
                rw [e]; rfl
        · refine jx_iconst (v := 2) dX11_mayBe_45 (by decide) ?_
          refine jx_goto 50 dX11_mayBe_46 (by decide) ?_
          refine jx_iaddE (z := nI ((hgt c) + 2)) dX11_mayBe_50 (nI_add (hgt c) 2) ?_
          refine jx_icmpN_ge (a := lev) (b := ((hgt c) + 2)) 67 dX11_mayBe_51 (by decide) (by omega) (by omega) (fun h51 => ?_) (fun h51 => ?_)
          · refine jx_iconst (v := 0) dX11_mayBe_67 (by decide) ?_
            refine jx_zret dX11_mayBe_68 rfl ?_ ?_
            · first | exact Or.inl rfl | exact Or.inr rfl | exact jb_or _
            refine ⟨?_, rfl⟩
            have e : mayQ W hgt wh q lev kind load c = false := by
              unfold mayQ
              first | (simp_all; done) | (simp_all; omega)
            rw [e]; rfl
          · refine jx_iload_n dX11_mayBe_54 rfl ?_
            refine jx_ifN_le (a := load) 69 dX11_mayBe_55 (by decide) (by omega) (fun h55 => ?_) (fun h55 => ?_)
            · refine jx_iload_n dX11_mayBe_69 rfl ?_
              refine jx_iconst (v := 1) dX11_mayBe_70 (by decide) ?_
              refine jx_icmpN_ne (a := kind) (b := 1) 86 dX11_mayBe_71 (by decide) (by omega) (by omega) (fun h71 => ?_) (fun h71 => ?_)
              · refine jx_iconst (v := 1) dX11_mayBe_86 (by decide) ?_
                refine jx_goto 91 dX11_mayBe_87 (by decide) ?_
                refine jx_zret dX11_mayBe_91 rfl ?_ ?_
                · first | exact Or.inl rfl | exact Or.inr rfl | exact jb_or _
                refine ⟨?_, rfl⟩
                have e : mayQ W hgt wh q lev kind load c = true := by
                  unfold mayQ
                  first | (simp_all; done) | (simp_all; omega)
                rw [e]; rfl
              · refine jx_iload_n dX11_mayBe_74 rfl ?_
                refine jx_aload_n dX11_mayBe_75 rfl ?_
                refine jx_getR dX11_mayBe_76 flX11_38 rfl rfl (hR _ _ _ rfl) ?_
                refine jx_iload_n dX11_mayBe_79 rfl ?_
                refine jx_ialdE (c) dX11_mayBe_80 rfl (rfl) (by omega) (by omega) (h2) ?_
                refine jx_iconst (v := 2) dX11_mayBe_81 (by decide) ?_
                refine jx_iaddE (z := nI ((hgt c) + 2)) dX11_mayBe_82 (nI_add (hgt c) 2) ?_
                refine jx_icmpN_gt (a := load) (b := ((hgt c) + 2)) 90 dX11_mayBe_83 (by decide) (by omega) (by omega) (fun h83 => ?_) (fun h83 => ?_)
                · refine jx_iconst (v := 0) dX11_mayBe_90 (by decide) ?_
                  refine jx_zret dX11_mayBe_91 rfl ?_ ?_
                  · first | exact Or.inl rfl | exact Or.inr rfl | exact jb_or _
                  refine ⟨?_, rfl⟩
                  have e : mayQ W hgt wh q lev kind load c = false := by
                    unfold mayQ
                    first | (simp_all; done) | (simp_all; omega)
                  rw [e]; rfl
                · refine jx_iconst (v := 1) dX11_mayBe_86 (by decide) ?_
                  refine jx_goto 91 dX11_mayBe_87 (by decide) ?_
                  refine jx_zret dX11_mayBe_91 rfl ?_ ?_
                  · first | exact Or.inl rfl | exact Or.inr rfl | exact jb_or _
                  refine ⟨?_, rfl⟩
                  have e : mayQ W hgt wh q lev kind load c = true := by
                    unfold mayQ
                    first | (simp_all; done) | (simp_all; omega)
                  rw [e]; rfl
            · refine jx_aload_n dX11_mayBe_58 rfl ?_
              refine jx_getR dX11_mayBe_59 flX11_91 rfl rfl (hR _ _ _ rfl) ?_
              refine jx_iload_n dX11_mayBe_62 rfl ?_
              refine jx_zaldE (c) dX11_mayBe_63 rfl (rfl) (by omega) (by omega) (h4) ?_
              refine jx_ifB_eq 69 dX11_mayBe_64 (by decide) (fun h64 => ?_) (fun h64 => ?_)
              · refine jx_iload_n dX11_mayBe_69 rfl ?_
                refine jx_iconst (v := 1) dX11_mayBe_70 (by decide) ?_
                refine jx_icmpN_ne (a := kind) (b := 1) 86 dX11_mayBe_71 (by decide) (by omega) (by omega) (fun h71 => ?_) (fun h71 => ?_)
                · refine jx_iconst (v := 1) dX11_mayBe_86 (by decide) ?_
                  refine jx_goto 91 dX11_mayBe_87 (by decide) ?_
                  refine jx_zret dX11_mayBe_91 rfl ?_ ?_
                  · first | exact Or.inl rfl | exact Or.inr rfl | exact jb_or _
                  refine ⟨?_, rfl⟩
                  have e : mayQ W hgt wh q lev kind load c = true := by
                    unfold mayQ
                    first | (simp_all; done) | (simp_all; omega)
                  rw [e]; rfl
                · refine jx_iload_n dX11_mayBe_74 rfl ?_
                  refine jx_aload_n dX11_mayBe_75 rfl ?_
                  refine jx_getR dX11_mayBe_76 flX11_38 rfl rfl (hR _ _ _ rfl) ?_
                  refine jx_iload_n dX11_mayBe_79 rfl ?_
                  refine jx_ialdE (c) dX11_mayBe_80 rfl (rfl) (by omega) (by omega) (h2) ?_
                  refine jx_iconst (v := 2) dX11_mayBe_81 (by decide) ?_
                  refine jx_iaddE (z := nI ((hgt c) + 2)) dX11_mayBe_82 (nI_add (hgt c) 2) ?_
                  refine jx_icmpN_gt (a := load) (b := ((hgt c) + 2)) 90 dX11_mayBe_83 (by decide) (by omega) (by omega) (fun h83 => ?_) (fun h83 => ?_)
                  · refine jx_iconst (v := 0) dX11_mayBe_90 (by decide) ?_
                    refine jx_zret dX11_mayBe_91 rfl ?_ ?_
                    · first | exact Or.inl rfl | exact Or.inr rfl | exact jb_or _
                    refine ⟨?_, rfl⟩
                    have e : mayQ W hgt wh q lev kind load c = false := by
                      unfold mayQ
                      first | (simp_all; done) | (simp_all; omega)
                    rw [e]; rfl
                  · refine jx_iconst (v := 1) dX11_mayBe_86 (by decide) ?_
                    refine jx_goto 91 dX11_mayBe_87 (by decide) ?_
                    refine jx_zret dX11_mayBe_91 rfl ?_ ?_
                    · first | exact Or.inl rfl | exact Or.inr rfl | exact jb_or _
                    refine ⟨?_, rfl⟩
                    have e : mayQ W hgt wh q lev kind load c = true := by
                      unfold mayQ
                      first | (simp_all; done) | (simp_all; omega)
                    rw [e]; rfl
              · refine jx_iconst (v := 0) dX11_mayBe_67 (by decide) ?_
                refine jx_zret dX11_mayBe_68 rfl ?_ ?_
                · first | exact Or.inl rfl | exact Or.inr rfl | exact jb_or _
                refine ⟨?_, rfl⟩
                have e : mayQ W hgt wh q lev kind load c = false := by
                  unfold mayQ
                  first | (simp_all; done) | (simp_all; omega)
                rw [e]; rfl
      · refine jx_iconst (v := 1) dX11_mayBe_25 (by decide) ?_
        refine jx_zret dX11_mayBe_26 rfl ?_ ?_
        · first | exact Or.inl rfl | exact Or.inr rfl | exact jb_or _
        refine ⟨?_, rfl⟩
        have e : mayQ W hgt wh q lev kind load c = true := by
          unfold mayQ
          first | (simp_all; done) | (simp_all; omega)
        rw [e]; rfl
set_option maxHeartbeats 1000000 in
set_option maxRecDepth 20000 in
theorem tX11_besides (hW : jWok w l) (hR : RS R) {W H : Nat} (hT : MT I W H) {c v : Nat} (hc : c < W * H) (hv : v < 4) : jCD w l mX11_besides 2 [.ref 1069, .int (nI c), .int (nI v)] (n, shE, I, L, R) (some (.int (oI (nbr W H c v)))) (n, shE, I, L, R) := by
  refine jCD_of hW (by decide) rfl (Nat.le_of_ble_eq_true rfl) ?_
  have hz := hT.wh
  have hw3 := hT.2.2.1
  have hw9 := hT.2.2.2.1
  have hh1 := hT.2.2.2.2.1
  have hh7 := hT.2.2.2.2.2
  have hm := Nat.mod_lt c (y := W) (by omega)
  have hd := divlt hc
  have hdn : (0 : Int) ≤ ((c / W : Nat) : Int) := Int.natCast_nonneg _
  have hX : -1 ≤ DX v ∧ DX v ≤ 1 := by unfold DX; split <;> (try split) <;> omega
  have hY : -1 ≤ DY v ∧ DY v ≤ 1 := by unfold DY; split <;> (try split) <;> omega
  rw [nbr_eq hw3 hh1 hc hv]
  have key55 : jWP w l mX11_besides 2 0 0 (fun r t => r = some (.int (if (0 ≤ ((c % W : Nat) : Int) + DX v ∧ ((c % W : Nat) : Int) + DX v ≤ ((W - 1 : Nat) : Int)) ∧ (0 ≤ ((c / W : Nat) : Int) + DY v ∧ ((c / W : Nat) : Int) + DY v ≤ ((H - 1 : Nat) : Int)) then nI W * zI (((c / W : Nat) : Int) + DY v) + zI (((c % W : Nat) : Int) + DX v) else -1)) ∧ t = (n, shE, I, L, R)) (fun _ _ => False) 55 [(0, .ref 1069), (1, .int (nI c)), (2, .int (nI v)), (3, .int (zI (((c % W : Nat) : Int) + DX v)))] [.int (zI (DY v)), .int (nI (c / W))] (n, shE, I, L, R) := by
    refine jx_iaddE (z := zI (((c / W : Nat) : Int) + DY v)) dX11_besides_55 (by rw [nI_zI, zI_add]) ?_
    refine jx_istore dX11_besides_56 (by decide) ?_
    refine jx_iload_n dX11_besides_58 rfl ?_
    refine jx_i2l dX11_besides_59 ?_
    refine jx_lconst (v := 0) dX11_besides_60 (by decide) ?_
    refine jx_aload_n dX11_besides_61 rfl ?_
    refine jx_getR dX11_besides_62 flX11_34 rfl rfl (hR _ _ _ rfl) ?_
    refine jx_iconst (v := 0) dX11_besides_65 (by decide) ?_
    refine jx_ialdE (0) dX11_besides_66 rfl (rfl) (by omega) (by omega) (hT.1) ?_
    refine jx_iconst (v := 1) dX11_besides_67 (by decide) ?_
    refine jx_isubE (z := nI (W - 1)) dX11_besides_68 (pk_sub (a := W) (b := 1) (by omega)) ?_
    refine jx_i2l dX11_besides_69 ?_
    refine jx_Si (as := [.long _, .long _, .long _]) dX11_besides_70 mlX11_190 okX11_isIn stX11_isIn rfl rfl (by decide) (Nat.le_of_ble_eq_true rfl) (tX11_isInZ hW (by omega) (by omega) (by omega) _) ?_
    refine jx_ifB_eq 109 dX11_besides_73 (by decide) (fun h73 => ?_) (fun h73 => ?_)
    · refine jx_iconst (v := -1) dX11_besides_109 (by decide) ?_
      refine jx_iret dX11_besides_110 rfl ?_
      refine ⟨?_, rfl⟩
      first | rw [if_neg (fun q => of_decide_eq_false h73 q.1)] | rw [if_neg (fun q => of_decide_eq_false h92 q.2)] | rw [if_pos ⟨of_decide_eq_true h73, of_decide_eq_true h92⟩]
    · refine jx_iload dX11_besides_76 rfl ?_
      refine jx_i2l dX11_besides_78 ?_
      refine jx_lconst (v := 0) dX11_besides_79 (by decide) ?_
      refine jx_aload_n dX11_besides_80 rfl ?_
      refine jx_getR dX11_besides_81 flX11_34 rfl rfl (hR _ _ _ rfl) ?_
      refine jx_iconst (v := 1) dX11_besides_84 (by decide) ?_
      refine jx_ialdE (1) dX11_besides_85 rfl (rfl) (by omega) (by omega) (hT.2.1) ?_
      refine jx_iconst (v := 1) dX11_besides_86 (by decide) ?_
      refine jx_isubE (z := nI (H - 1)) dX11_besides_87 (pk_sub (a := H) (b := 1) (by omega)) ?_
      refine jx_i2l dX11_besides_88 ?_
      refine jx_Si (as := [.long _, .long _, .long _]) dX11_besides_89 mlX11_190 okX11_isIn stX11_isIn rfl rfl (by decide) (Nat.le_of_ble_eq_true rfl) (tX11_isInZ hW (by omega) (by omega) (by omega) _) ?_
      refine jx_ifB_eq 109 dX11_besides_92 (by decide) (fun h92 => ?_) (fun h92 => ?_)
      · refine jx_iconst (v := -1) dX11_besides_109 (by decide) ?_
        refine jx_iret dX11_besides_110 rfl ?_
        refine ⟨?_, rfl⟩
        first | rw [if_neg (fun q => of_decide_eq_false h73 q.1)] | rw [if_neg (fun q => of_decide_eq_false h92 q.2)] | rw [if_pos ⟨of_decide_eq_true h73, of_decide_eq_true h92⟩]
      · refine jx_aload_n dX11_besides_95 rfl ?_
        refine jx_getR dX11_besides_96 flX11_34 rfl rfl (hR _ _ _ rfl) ?_
        refine jx_iconst (v := 0) dX11_besides_99 (by decide) ?_
        refine jx_ialdE (0) dX11_besides_100 rfl (rfl) (by omega) (by omega) (hT.1) ?_
        refine jx_iload dX11_besides_101 rfl ?_
        refine jx_imul dX11_besides_103 ?_
        refine jx_iload_n dX11_besides_104 rfl ?_
        refine jx_iadd dX11_besides_105 ?_
        refine jx_goto 110 dX11_besides_106 (by decide) ?_
        refine jx_iret dX11_besides_110 rfl ?_
        refine ⟨?_, rfl⟩
        first | rw [if_neg (fun q => of_decide_eq_false h73 q.1)] | rw [if_neg (fun q => of_decide_eq_false h92 q.2)] | rw [if_pos ⟨of_decide_eq_true h73, of_decide_eq_true h92⟩]
  have key27 : jWP w l mX11_besides 2 0 0 (fun r t => r = some (.int (if (0 ≤ ((c % W : Nat) : Int) + DX v ∧ ((c % W : Nat) : Int) + DX v ≤ ((W - 1 : Nat) : Int)) ∧ (0 ≤ ((c / W : Nat) : Int) + DY v ∧ ((c / W : Nat) : Int) + DY v ≤ ((H - 1 : Nat) : Int)) then nI W * zI (((c / W : Nat) : Int) + DY v) + zI (((c % W : Nat) : Int) + DX v) else -1)) ∧ t = (n, shE, I, L, R)) (fun _ _ => False) 27 [(0, .ref 1069), (1, .int (nI c)), (2, .int (nI v))] [.int (zI (DX v)), .int (nI (c % W))] (n, shE, I, L, R) := by
    refine jx_iaddE (z := zI (((c % W : Nat) : Int) + DX v)) dX11_besides_27 (by rw [nI_zI, zI_add]) ?_
    refine jx_istore_n dX11_besides_28 rfl (by decide) ?_
    refine jx_iload_n dX11_besides_29 rfl ?_
    refine jx_aload_n dX11_besides_30 rfl ?_
    refine jx_getR dX11_besides_31 flX11_34 rfl rfl (hR _ _ _ rfl) ?_
    refine jx_iconst (v := 0) dX11_besides_34 (by decide) ?_
    refine jx_ialdE (0) dX11_besides_35 rfl (rfl) (by omega) (by omega) (hT.1) ?_
    refine jx_idivE (z := nI (c / W)) dX11_besides_36 (nI_ne0 (n := W) (by omega) (by omega)) (pk_div (a := c) (d := W) (by omega) (by omega) (by omega)) ?_
    refine jx_iload_n dX11_besides_37 rfl ?_
    refine jx_iconst (v := 2) dX11_besides_38 (by decide) ?_
    refine jx_icmpN_ne (a := v) (b := 2) 46 dX11_besides_39 (by decide) (by omega) (by omega) (fun h39 => ?_) (fun h39 => ?_)
    · have h39 := h39
      refine jx_iload_n dX11_besides_46 rfl ?_
      refine jx_ifN_ne (a := v) 54 dX11_besides_47 (by decide) (by omega) (fun h47 => ?_) (fun h47 => ?_)
      · refine jx_iconst (v := 0) dX11_besides_54 (by decide) ?_
        have e : (0 : Int32) = zI (DY v) := by unfold DY; simp_all [zI]
        have k := key55
        rw [← e] at k
        exact jx_ls (by exact ⟨rfl, rfl, rfl, rfl, trivial⟩) k
      · refine jx_iconst (v := -1) dX11_besides_50 (by decide) ?_
        refine jx_goto 55 dX11_besides_51 (by decide) ?_
        have e : (-1 : Int32) = zI (DY v) := by unfold DY; simp_all [zI]
        have k := key55
        rw [← e] at k
        exact jx_ls (by exact ⟨rfl, rfl, rfl, rfl, trivial⟩) k
    · refine jx_iconst (v := 1) dX11_besides_42 (by decide) ?_
      refine jx_goto 55 dX11_besides_43 (by decide) ?_
      have e : (1 : Int32) = zI (DY v) := by unfold DY; simp_all [zI]
      have k := key55
      rw [← e] at k
      exact jx_ls (by exact ⟨rfl, rfl, rfl, rfl, trivial⟩) k
  refine jx_iload_n dX11_besides_0 rfl ?_
  refine jx_aload_n dX11_besides_1 rfl ?_
  refine jx_getR dX11_besides_2 flX11_34 rfl rfl (hR _ _ _ rfl) ?_
  refine jx_iconst (v := 0) dX11_besides_5 (by decide) ?_
  refine jx_ialdE (0) dX11_besides_6 rfl (rfl) (by omega) (by omega) (hT.1) ?_
  refine jx_iremE (z := nI (c % W)) dX11_besides_7 (nI_ne0 (n := W) (by omega) (by omega)) (pk_rem (a := c) (d := W) (by omega) (by omega) (by omega)) ?_
  refine jx_iload_n dX11_besides_8 rfl ?_
  refine jx_iconst (v := 1) dX11_besides_9 (by decide) ?_
  refine jx_icmpN_ne (a := v) (b := 1) 17 dX11_besides_10 (by decide) (by omega) (by omega) (fun h10 => ?_) (fun h10 => ?_)
  · refine jx_iload_n dX11_besides_17 rfl ?_
    refine jx_iconst (v := 3) dX11_besides_18 (by decide) ?_
    refine jx_icmpN_ne (a := v) (b := 3) 26 dX11_besides_19 (by decide) (by omega) (by omega) (fun h19 => ?_) (fun h19 => ?_)
    · refine jx_iconst (v := 0) dX11_besides_26 (by decide) ?_
      have e : (0 : Int32) = zI (DX v) := by unfold DX; simp_all [zI]
      have k := key27
      rw [← e] at k
      exact k
    · refine jx_iconst (v := -1) dX11_besides_22 (by decide) ?_
      refine jx_goto 27 dX11_besides_23 (by decide) ?_
      have e : (-1 : Int32) = zI (DX v) := by unfold DX; simp_all [zI]
      have k := key27
      rw [← e] at k
      exact k
  · refine jx_iconst (v := 1) dX11_besides_13 (by decide) ?_
    refine jx_goto 27 dX11_besides_14 (by decide) ?_
    have e : (1 : Int32) = zI (DX v) := by unfold DX; simp_all [zI]
    have k := key27
    rw [← e] at k
    exact k
theorem tX11_canStep0 (hW : jWok w l) (t : Int32) : jCD w l mX11_canStep 1 [.ref 1069, .int (-1), .int t] (n, shE, I, L, R) (some (.int (jb false))) (n, shE, I, L, R) := by
  refine jCD_of hW (by decide) rfl (Nat.le_of_ble_eq_true rfl) ?_
  refine jx_iload_n dX11_canStep_0 rfl ?_
  refine jx_iconst (v := -1) dX11_canStep_1 (by decide) ?_
  refine jx_icmp_eq 16 dX11_canStep_2 (by decide) (fun h2 => ?_) (fun h2 => ?_)
  · refine jx_iconst (v := 0) dX11_canStep_16 (by decide) ?_
    refine jx_zret dX11_canStep_17 rfl ?_ ?_
    · first | exact Or.inl rfl | exact Or.inr rfl | exact jb_or _
    exact ⟨rfl, rfl⟩
  · exact absurd rfl h2
set_option maxHeartbeats 1000000 in
set_option maxRecDepth 20000 in
theorem tX11_canStep (hW : jWok w l) (hR : RS R) {pace q t : Nat} (hp : I 1069 35 = nI pace) (hp1 : 1 ≤ pace) (hp7 : pace ≤ 7) {m : Nat → Nat → Bool} (hq : q < 63) (ht : t < 96) (hm : ∀ j, j < 96 → I 1090 (96 * q + j) = jb (m q j)) : jCD w l mX11_canStep 1 [.ref 1069, .int (nI q), .int (nI t)] (n, shE, I, L, R) (some (.int (jb (stp pace m q t)))) (n, shE, I, L, R) := by
  refine jCD_of hW (by decide) rfl (Nat.le_of_ble_eq_true rfl) ?_
  have key : t + pace < 96 → ∀ j, j ≤ pace → allS m q t j = true → jWP w l mX11_canStep 1 0 0 (fun r t_1 => r = some (.int (jb (stp pace m q t))) ∧ t_1 = (n, shE, I, L, R)) (fun _ _ => False) 22 [(0, .ref 1069), (1, .int (nI q)), (2, .int (nI t)), (3, .int (nI (t + 1 + j)))] [] (n, shE, I, L, R) := by
    intro hlt
    refine jdown _ (fun j hj ih => ?_)
    intro ha
    refine jx_iload_n dX11_canStep_22 rfl ?_
    refine jx_iload_n dX11_canStep_23 rfl ?_
    refine jx_aload_n dX11_canStep_24 rfl ?_
    refine jx_getIE dX11_canStep_25 flX11_399 rfl rfl (hp) ?_
    refine jx_iaddE (z := nI (t + pace)) dX11_canStep_28 (nI_add t pace) ?_
    refine jx_icmpN_gt (a := (t + 1 + j)) (b := (t + pace)) 54 dX11_canStep_29 (by decide) (by omega) (by omega) (fun h29 => ?_) (fun h29 => ?_)
    · refine jx_iconst (v := 1) dX11_canStep_54 (by decide) ?_
      refine jx_zret dX11_canStep_55 rfl ?_ ?_
      · first | exact Or.inl rfl | exact Or.inr rfl | exact jb_or _
      refine ⟨?_, rfl⟩
      have : j = pace := by omega
      subst this
      have e : stp j m q t = true := by simp [stp, ha]; omega
      rw [e]; rfl
    · refine jx_aload_n dX11_canStep_32 rfl ?_
      refine jx_getR dX11_canStep_33 flX11_94 rfl rfl (hR _ _ _ rfl) ?_
      refine jx_bipush (v := 96) dX11_canStep_36 (by decide) ?_
      refine jx_iload_n dX11_canStep_38 rfl ?_
      refine jx_imulE (z := nI (96 * q)) dX11_canStep_39 (pk_mul 96 q) ?_
      refine jx_iload_n dX11_canStep_40 rfl ?_
      refine jx_iaddE (z := nI ((96 * q) + (t + 1 + j))) dX11_canStep_41 (nI_add (96 * q) (t + 1 + j)) ?_
      refine jx_zaldE ((96 * q) + (t + 1 + j)) dX11_canStep_42 rfl (rfl) (by omega) (by omega) (hm (t + 1 + j) (by omega)) ?_
      refine jx_ifB_ne 48 dX11_canStep_43 (by decide) (fun h43 => ?_) (fun h43 => ?_)
      · refine jx_iinc dX11_canStep_48 rfl (v := nI ((t + 1 + j) + 1)) (nI_1 _) (by decide) ?_
        refine jx_goto 22 dX11_canStep_51 (by decide) ?_
        refine jx_ls (by exact ⟨rfl, rfl, rfl, rfl, trivial⟩) (ih (by omega) ?_)
        show (allS m q t j && m q (t + j + 1)) = true
        rw [ha, show t + j + 1 = t + 1 + j by omega, h43]; rfl
      · refine jx_iconst (v := 0) dX11_canStep_46 (by decide) ?_
        refine jx_zret dX11_canStep_47 rfl ?_ ?_
        · first | exact Or.inl rfl | exact Or.inr rfl | exact jb_or _
        refine ⟨?_, rfl⟩
        have e : stp pace m q t = false := by
          cases hs : stp pace m q t with
          | false => rfl
          | true =>
            simp [stp] at hs
            have h5 := allS_le (j := j + 1) (by omega) hs.2
            simp only [allS, Bool.and_eq_true] at h5
            have h6 := h5.2
            rw [show t + j + 1 = t + 1 + j by omega, h43] at h6
            cases h6
        rw [e]; rfl
  refine jx_iload_n dX11_canStep_0 rfl ?_
  refine jx_iconst (v := -1) dX11_canStep_1 (by decide) ?_
  refine jx_icmp_eq 16 dX11_canStep_2 (by decide) (fun h2 => ?_) (fun h2 => ?_)
  · exfalso
    have h3 := congrArg Int32.toInt h2
    rw [nI_toInt (by omega), show (-1 : Int32).toInt = -1 from by decide] at h3
    omega
  · refine jx_iload_n dX11_canStep_5 rfl ?_
    refine jx_aload_n dX11_canStep_6 rfl ?_
    refine jx_getIE dX11_canStep_7 flX11_399 rfl rfl (hp) ?_
    refine jx_iaddE (z := nI (t + pace)) dX11_canStep_10 (nI_add t pace) ?_
    refine jx_bipush (v := 96) dX11_canStep_11 (by decide) ?_
    refine jx_icmpN_lt (a := (t + pace)) (b := 96) 18 dX11_canStep_13 (by decide) (by omega) (by omega) (fun h13 => ?_) (fun h13 => ?_)
    · refine jx_iload_n dX11_canStep_18 rfl ?_
      refine jx_iconst (v := 1) dX11_canStep_19 (by decide) ?_
      refine jx_iaddE (z := nI (t + 1)) dX11_canStep_20 (nI_add t 1) ?_
      refine jx_istore_n dX11_canStep_21 rfl (by decide) ?_
      exact jx_ls (by exact ⟨rfl, rfl, rfl, rfl, trivial⟩) (key h13 0 (by omega) rfl)
    · refine jx_iconst (v := 0) dX11_canStep_16 (by decide) ?_
      refine jx_zret dX11_canStep_17 rfl ?_ ?_
      · first | exact Or.inl rfl | exact Or.inr rfl | exact jb_or _
      refine ⟨?_, rfl⟩
      have e : stp pace m q t = false := by simp [stp]; omega
      rw [e]; rfl
set_option maxHeartbeats 1000000 in
set_option maxRecDepth 20000 in
theorem tX11_soonOf (hW : jWok w l) (hR : RS R) {W H : Nat} (hT : MT I W H) {pace c t : Nat} (hp : I 1069 35 = nI pace) (hp1 : 1 ≤ pace) (hp7 : pace ≤ 7) {m : Nat → Nat → Bool} {s : Nat → Nat → Nat} (hc : c < W * H) (ht : t < 96) (hm : ∀ q j, q < W * H → j < 96 → I 1090 (96 * q + j) = jb (m q j)) (hs : ∀ q j, q < W * H → t < j → j < 96 → I 1091 (96 * q + j) = nI (s q j)) (hs1 : ∀ q j, s q j ≤ 1000) : jCD w l mX11_soonOf 3 [.ref 1069, .int (nI c), .int (nI t)] (n, shE, I, L, R) (some (.int (nI (sOne W H pace m s c t)))) (n, shE, I, L, R) := by
  refine jCD_of hW (by decide) rfl (Nat.le_of_ble_eq_true rfl) ?_
  have hz := hT.wh
  have hw3 := hT.2.2.1
  have hw9 := hT.2.2.2.1
  have hh1 := hT.2.2.2.2.1
  have hh7 := hT.2.2.2.2.2
  have hub : ∀ v, sUp W H pace m s c t v ≤ 1000 := by
    intro v
    induction v with
    | zero => show sStay m s c t ≤ 1000; unfold sStay; split
              · exact hs1 _ _
              · omega
    | succ v ih => show sMin W H pace m s c t v _ ≤ 1000; unfold sMin; split
                   · split
                     · split
                       · exact hs1 _ _
                       · exact ih
                     · exact ih
                   · exact ih
  have key : ¬ c % W = W - 1 → ∀ v, v ≤ 4 → jWP w l mX11_soonOf 3 0 0 (fun r t_1 => r = some (.int (nI (sOne W H pace m s c t))) ∧ t_1 = (n, shE, I, L, R)) (fun _ _ => False) 57 [(0, .ref 1069), (1, .int (nI c)), (2, .int (nI t)), (3, .int (nI (sUp W H pace m s c t v))), (4, .int (nI v))] [] (n, shE, I, L, R) := by
    intro hni
    refine jdown _ (fun v hv ih => ?_)
    have hvb := hub v
    refine jx_iload dX11_soonOf_57 rfl ?_
    refine jx_iconst (v := 4) dX11_soonOf_59 (by decide) ?_
    refine jx_icmpN_ge (a := v) (b := 4) 110 dX11_soonOf_60 (by decide) (by omega) (by omega) (fun h60 => ?_) (fun h60 => ?_)
    · refine jx_iload_n dX11_soonOf_110 rfl ?_
      refine jx_iret dX11_soonOf_111 rfl ?_
      refine ⟨?_, rfl⟩
      have : v = 4 := by omega
      subst this
      unfold sOne
      rw [if_neg hni]
    · refine jx_aload_n dX11_soonOf_63 rfl ?_
      refine jx_iload_n dX11_soonOf_64 rfl ?_
      refine jx_iload dX11_soonOf_65 rfl ?_
      refine jx_Vi (as := [.int _, .int _]) dX11_soonOf_67 mlX11_402 okX11_besides viX11_besides rfl rfl rfl rfl rfl (by decide) (Nat.le_of_ble_eq_true rfl) (tX11_besides hW hR hT hc h60) ?_
      cases hn : nbr W H c v with
      | none =>
        show jWP w l mX11_soonOf 3 0 0 _ _ 70 _ [.int (-1)] _
        refine jx_istore dX11_soonOf_70 (by decide) ?_
        refine jx_aload_n dX11_soonOf_72 rfl ?_
        refine jx_iload dX11_soonOf_73 rfl ?_
        refine jx_iload_n dX11_soonOf_75 rfl ?_
        refine jx_Vi (as := [.int _, .int _]) dX11_soonOf_76 mlX11_405 okX11_canStep viX11_canStep rfl rfl rfl rfl rfl (by decide) (Nat.le_of_ble_eq_true rfl) (tX11_canStep0 hW _) ?_
        refine jx_ifB_eq 104 dX11_soonOf_79 (by decide) (fun h79 => ?_) (fun h79 => ?_)
        · refine jx_iinc dX11_soonOf_104 rfl (v := nI (v + 1)) (nI_1 _) (by decide) ?_
          refine jx_goto 57 dX11_soonOf_107 (by decide) ?_
          have k := ih h60
          rw [show sUp W H pace m s c t (v + 1) = sUp W H pace m s c t v from by show sMin W H pace m s c t v _ = _; unfold sMin; rw [hn]] at k
          exact jx_ls (by exact ⟨rfl, rfl, rfl, rfl, rfl, trivial⟩) k
        · cases h79
      | some q =>
        have hql := nbr_lt hw3 hh1 hc hn
        show jWP w l mX11_soonOf 3 0 0 _ _ 70 _ [.int (nI q)] _
        refine jx_istore dX11_soonOf_70 (by decide) ?_
        refine jx_aload_n dX11_soonOf_72 rfl ?_
        refine jx_iload dX11_soonOf_73 rfl ?_
        refine jx_iload_n dX11_soonOf_75 rfl ?_
        refine jx_Vi (as := [.int _, .int _]) dX11_soonOf_76 mlX11_405 okX11_canStep viX11_canStep rfl rfl rfl rfl rfl (by decide) (Nat.le_of_ble_eq_true rfl) (tX11_canStep hW hR hp hp1 hp7 (m := m) (by omega) ht (fun j hj => hm q j hql hj)) ?_
        refine jx_ifB_eq 104 dX11_soonOf_79 (by decide) (fun h79 => ?_) (fun h79 => ?_)
        · refine jx_iinc dX11_soonOf_104 rfl (v := nI (v + 1)) (nI_1 _) (by decide) ?_
          refine jx_goto 57 dX11_soonOf_107 (by decide) ?_
          have k := ih h60
          rw [show sUp W H pace m s c t (v + 1) = sUp W H pace m s c t v from by show sMin W H pace m s c t v _ = _; unfold sMin; rw [hn]; simp only [h79]; rfl] at k
          exact jx_ls (by exact ⟨rfl, rfl, rfl, rfl, rfl, trivial⟩) k
        · have hstp : t + pace < 96 := by simp [stp] at h79; exact h79.1
          have hsb := hs1 q (t + pace)
          refine jx_iload_n dX11_soonOf_82 rfl ?_
          refine jx_aload_n dX11_soonOf_83 rfl ?_
          refine jx_getR dX11_soonOf_84 flX11_97 rfl rfl (hR _ _ _ rfl) ?_
          refine jx_bipush (v := 96) dX11_soonOf_87 (by decide) ?_
          refine jx_iload dX11_soonOf_89 rfl ?_
          refine jx_imulE (z := nI (96 * q)) dX11_soonOf_91 (pk_mul 96 q) ?_
          refine jx_iload_n dX11_soonOf_92 rfl ?_
          refine jx_iaddE (z := nI ((96 * q) + t)) dX11_soonOf_93 (nI_add (96 * q) t) ?_
          refine jx_aload_n dX11_soonOf_94 rfl ?_
          refine jx_getIE dX11_soonOf_95 flX11_399 rfl rfl (hp) ?_
          refine jx_iaddE (z := nI (((96 * q) + t) + pace)) dX11_soonOf_98 (nI_add ((96 * q) + t) pace) ?_
          refine jx_ialdE (((96 * q) + t) + pace) dX11_soonOf_99 rfl (rfl) (by omega) (by omega) ((congrArg (I 1091) (Nat.add_assoc (96 * q) t pace)).trans (hs q (t + pace) hql (by omega) hstp)) ?_
          refine jx_Si (as := [.int _, .int _]) dX11_soonOf_100 mlX11_228 okJ9_min_7cf53 stJ9_min_7cf53 rfl rfl (by decide) (Nat.le_of_ble_eq_true rfl) (tJ9_min_7cf53 hW _ _ _) ?_
          rw [show (if nI (s q (t + pace)) < nI (sUp W H pace m s c t v) then nI (s q (t + pace)) else nI (sUp W H pace m s c t v)) = nI (sUp W H pace m s c t (v + 1)) from by
            show _ = nI (sMin W H pace m s c t v _)
            unfold sMin
            rw [hn]
            simp only [h79, if_true]
            by_cases h0 : s q (t + pace) < sUp W H pace m s c t v
            · rw [if_pos h0, if_pos ((nI_ltI (by omega) (by omega)).mpr h0)]
            · rw [if_neg h0, if_neg (fun z => h0 ((nI_ltI (by omega) (by omega)).mp z))]]
          refine jx_istore_n dX11_soonOf_103 rfl (by decide) ?_
          refine jx_iinc dX11_soonOf_104 rfl (v := nI (v + 1)) (nI_1 _) (by decide) ?_
          refine jx_goto 57 dX11_soonOf_107 (by decide) ?_
          exact jx_ls (by exact ⟨rfl, rfl, rfl, rfl, rfl, trivial⟩) (ih h60)
  refine jx_aload_n dX11_soonOf_0 rfl ?_
  refine jx_iload_n dX11_soonOf_1 rfl ?_
  refine jx_Vi (as := [.int _]) dX11_soonOf_2 mlX11_396 okX11_isIsland viX11_isIsland rfl rfl rfl rfl rfl (by decide) (Nat.le_of_ble_eq_true rfl) (tX11_isIsland hW hR hT (by omega)) ?_
  refine jx_ifB_eq 10 dX11_soonOf_5 (by decide) (fun h5 => ?_) (fun h5 => ?_)
  · refine jx_iload_n dX11_soonOf_10 rfl ?_
    refine jx_iconst (v := 1) dX11_soonOf_11 (by decide) ?_
    refine jx_iaddE (z := nI (t + 1)) dX11_soonOf_12 (nI_add t 1) ?_
    refine jx_bipush (v := 96) dX11_soonOf_13 (by decide) ?_
    refine jx_icmpN_ge (a := (t + 1)) (b := 96) 50 dX11_soonOf_15 (by decide) (by omega) (by omega) (fun h15 => ?_) (fun h15 => ?_)
    · refine jx_sipush (v := 1000) dX11_soonOf_50 (by decide) ?_
      refine jx_istore_n dX11_soonOf_53 rfl (by decide) ?_
      refine jx_iconst (v := 0) dX11_soonOf_54 (by decide) ?_
      refine jx_istore dX11_soonOf_55 (by decide) ?_
      have key := key (of_decide_eq_false h5) 0 (by omega)
      rw [show sUp W H pace m s c t 0 = 1000 from by show sStay m s c t = _; unfold sStay; first | rw [if_neg (by omega)] | rw [if_neg (by simp [h31])]] at key
      exact jx_ls (by exact ⟨rfl, rfl, rfl, rfl, rfl, trivial⟩) key
    · refine jx_aload_n dX11_soonOf_18 rfl ?_
      refine jx_getR dX11_soonOf_19 flX11_94 rfl rfl (hR _ _ _ rfl) ?_
      refine jx_bipush (v := 96) dX11_soonOf_22 (by decide) ?_
      refine jx_iload_n dX11_soonOf_24 rfl ?_
      refine jx_imulE (z := nI (96 * c)) dX11_soonOf_25 (pk_mul 96 c) ?_
      refine jx_iload_n dX11_soonOf_26 rfl ?_
      refine jx_iaddE (z := nI ((96 * c) + t)) dX11_soonOf_27 (nI_add (96 * c) t) ?_
      refine jx_iconst (v := 1) dX11_soonOf_28 (by decide) ?_
      refine jx_iaddE (z := nI (((96 * c) + t) + 1)) dX11_soonOf_29 (nI_add ((96 * c) + t) 1) ?_
      refine jx_zaldE (((96 * c) + t) + 1) dX11_soonOf_30 rfl (rfl) (by omega) (by omega) ((congrArg (I 1090) (Nat.add_assoc (96 * c) t 1)).trans (hm c (t + 1) hc h15)) ?_
      refine jx_ifB_eq 50 dX11_soonOf_31 (by decide) (fun h31 => ?_) (fun h31 => ?_)
      · refine jx_sipush (v := 1000) dX11_soonOf_50 (by decide) ?_
        refine jx_istore_n dX11_soonOf_53 rfl (by decide) ?_
        refine jx_iconst (v := 0) dX11_soonOf_54 (by decide) ?_
        refine jx_istore dX11_soonOf_55 (by decide) ?_
        have key := key (of_decide_eq_false h5) 0 (by omega)
        rw [show sUp W H pace m s c t 0 = 1000 from by show sStay m s c t = _; unfold sStay; first | rw [if_neg (by omega)] | rw [if_neg (by simp [h31])]] at key
        exact jx_ls (by exact ⟨rfl, rfl, rfl, rfl, rfl, trivial⟩) key
      · refine jx_aload_n dX11_soonOf_34 rfl ?_
        refine jx_getR dX11_soonOf_35 flX11_97 rfl rfl (hR _ _ _ rfl) ?_
        refine jx_bipush (v := 96) dX11_soonOf_38 (by decide) ?_
        refine jx_iload_n dX11_soonOf_40 rfl ?_
        refine jx_imulE (z := nI (96 * c)) dX11_soonOf_41 (pk_mul 96 c) ?_
        refine jx_iload_n dX11_soonOf_42 rfl ?_
        refine jx_iaddE (z := nI ((96 * c) + t)) dX11_soonOf_43 (nI_add (96 * c) t) ?_
        refine jx_iconst (v := 1) dX11_soonOf_44 (by decide) ?_
        refine jx_iaddE (z := nI (((96 * c) + t) + 1)) dX11_soonOf_45 (nI_add ((96 * c) + t) 1) ?_
        refine jx_ialdE (((96 * c) + t) + 1) dX11_soonOf_46 rfl (rfl) (by omega) (by omega) ((congrArg (I 1091) (Nat.add_assoc (96 * c) t 1)).trans (hs c (t + 1) hc (by omega) h15)) ?_
        refine jx_goto 53 dX11_soonOf_47 (by decide) ?_
        refine jx_istore_n dX11_soonOf_53 rfl (by decide) ?_
        refine jx_iconst (v := 0) dX11_soonOf_54 (by decide) ?_
        refine jx_istore dX11_soonOf_55 (by decide) ?_
        have key := key (of_decide_eq_false h5) 0 (by omega)
        rw [show sUp W H pace m s c t 0 = s c (t + 1) from by show sStay m s c t = _; unfold sStay; rw [if_pos ⟨h15, h31⟩]] at key
        exact jx_ls (by exact ⟨rfl, rfl, rfl, rfl, rfl, trivial⟩) key
  · refine jx_iload_n dX11_soonOf_8 rfl ?_
    refine jx_iret dX11_soonOf_9 rfl ?_
    refine ⟨?_, rfl⟩
    unfold sOne
    rw [if_pos (of_decide_eq_true h5)]
end RD
