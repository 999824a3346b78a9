/-! THE REFERENCE: who meets, what is crowded, who leaves -/
def mtT (I : Nat → Nat → Int32) (W i o sort t : Nat) : Bool := match pl I i t with
  | some c => decide (pl I o t = some c) && !decide (c % W = 0) && !decide (c % W = W - 1) && (decide (sort = 0) || decide (wht I c = sort))
  | none => false
def mt (I : Nat → Nat → Int32) (W i o sort : Nat) : Option Nat := if cN (I 1095 i) = cN (I 1095 o) then fnd (mtT I W i o sort) 96 else none
theorem pl_lt {I : Nat → Nat → Int32} {W H np b : Nat} (hB : RK I W H np b) {i t c : Nat} (hi : i < b) (h : pl I i t = some c) : c < W * H := by
  unfold pl plc at h
  split at h
  · rename_i h1
    cases h
    exact ((hB.2.2 i hi).2.2.2 t h1.1 h1.2).2
  · cases h
theorem oI_eq {x : Option Nat} (hx : ∀ a, x = some a → a < 2 ^ 31) {c : Nat} (hc : c < 2 ^ 31) : nI c = oI x ↔ x = some c := by
  cases x with
  | none =>
    refine ⟨fun e => ?_, fun e => by cases e⟩
    have e2 := congrArg Int32.toInt (show nI c = -1 from e)
    rw [nI_toInt hc, show (-1 : Int32).toInt = -1 from by decide] at e2
    omega
  | some a => exact ⟨fun e => by rw [(nI_eqI hc (hx a rfl)).mp e], fun e => by cases e; rfl⟩
def omin (x y : Option Nat) : Option Nat := match x with
  | none => y
  | some a => match y with
    | none => some a
    | some b => some (if b < a then b else a)
theorem fnd_or (f g : Nat → Bool) (n : Nat) : fnd (fun t => f t || g t) n = omin (fnd f n) (fnd g n) := by
  cases hf : fnd f n with
  | none =>
    have h1 := fnd_none.mp hf
    show fnd _ n = fnd g n
    cases hg : fnd g n with
    | none => exact fnd_none.mpr (fun t ht => by rw [h1 t ht, fnd_none.mp hg t ht]; rfl)
    | some b =>
      obtain ⟨b1, b2, b3⟩ := fnd_some.mp hg
      exact fnd_some.mpr ⟨b1, by rw [b2, Bool.or_true], fun j hj => by rw [h1 j (by omega), b3 j hj]; rfl⟩
  | some a =>
    obtain ⟨a1, a2, a3⟩ := fnd_some.mp hf
    cases hg : fnd g n with
    | none =>
      have h1 := fnd_none.mp hg
      exact fnd_some.mpr ⟨a1, by rw [a2, Bool.true_or], fun j hj => by rw [h1 j (by omega), a3 j hj]; rfl⟩
    | some b =>
      obtain ⟨b1, b2, b3⟩ := fnd_some.mp hg
      show _ = some (if b < a then b else a)
      by_cases e : b < a
      · rw [if_pos e]
        exact fnd_some.mpr ⟨b1, by rw [b2, Bool.or_true], fun j hj => by rw [a3 j (by omega), b3 j hj]; rfl⟩
      · rw [if_neg e]
        exact fnd_some.mpr ⟨a1, by rw [a2, Bool.true_or], fun j hj => by rw [a3 j hj, b3 j (by omega)]; rfl⟩
theorem fnd_congr {f g : Nat → Bool} {n : Nat} (h : ∀ t, t < n → f t = g t) : fnd f n = fnd g n := by
  cases hg : fnd g n with
  | none => exact fnd_none.mpr (fun t ht => by rw [h t ht]; exact fnd_none.mp hg t ht)
  | some b =>
    obtain ⟨b1, b2, b3⟩ := fnd_some.mp hg
    exact fnd_some.mpr ⟨b1, by rw [h b b1]; exact b2, fun j hj => by rw [h j (by omega)]; exact b3 j hj⟩
def prT (I : Nat → Nat → Int32) (W day left i k t : Nat) : Bool := onD I day i && onD I day k && !(left.testBit (cN (I 1094 i))) && !(left.testBit (cN (I 1094 k))) && mtT I W i k 2 t
def gI (I : Nat → Nat → Int32) (W day left i t : Nat) : Bool := anyN (fun i' => anyN (fun k => prT I W day left i' k t) i') i
def gK (I : Nat → Nat → Int32) (W day left i k t : Nat) : Bool := gI I W day left i t || anyN (fun k' => prT I W day left i k' t) k
/-- the first crowded tick of a day, some being left -/
def crw (I : Nat → Nat → Int32) (W b day left : Nat) : Option Nat := fnd (gI I W day left b) 96
theorem gK_0 (I : Nat → Nat → Int32) (W day left i : Nat) : gK I W day left i 0 = gI I W day left i := funext fun t => Bool.or_false _
theorem gK_i (I : Nat → Nat → Int32) (W day left i : Nat) : gK I W day left i i = gI I W day left (i + 1) := rfl
theorem gK_s (I : Nat → Nat → Int32) (W day left i k : Nat) : gK I W day left i (k + 1) = fun t => gK I W day left i k t || prT I W day left i k t := funext fun t => (Bool.or_assoc _ _ _).symm
theorem pr_on {I : Nat → Nat → Int32} {W day left i k : Nat} (h1 : onD I day i = true) (h2 : onD I day k = true) (h3 : left.testBit (cN (I 1094 i)) = false) (h4 : left.testBit (cN (I 1094 k)) = false) : prT I W day left i k = mtT I W i k 2 := by
  funext t; unfold prT; rw [h1, h2, h3, h4]; rfl
theorem pr_off {I : Nat → Nat → Int32} {W day left i k : Nat} (h : onD I day i = false ∨ onD I day k = false ∨ left.testBit (cN (I 1094 i)) = true ∨ left.testBit (cN (I 1094 k)) = true) (t : Nat) : prT I W day left i k t = false := by
  unfold prT
  rcases h with e | e | e | e <;> rw [e] <;> simp
theorem fnd_lt {f : Nat → Bool} {n a : Nat} (h : fnd f n = some a) : a < n := (fnd_some.mp h).1
theorem mt_on {I : Nat → Nat → Int32} {W day i k sort : Nat} (h1 : onD I day i = true) (h2 : onD I day k = true) : mt I W i k sort = fnd (mtT I W i k sort) 96 := by
  unfold onD at h1 h2
  unfold mt
  rw [if_pos ((of_decide_eq_true h1).trans (of_decide_eq_true h2).symm)]
/-- bits of a small set -/
def pc6 (a : Nat) : Nat := cntN (fun i => a.testBit i) 6
theorem bits_all : ∀ a : Fin 64, a.1 ≠ 0 → (Int32.ofNat a.1 &&& (Int32.ofNat a.1 - 1)) = Int32.ofNat (a.1 &&& (a.1 - 1)) ∧ (a.1 &&& (a.1 - 1)) < a.1 ∧ pc6 a.1 = pc6 (a.1 &&& (a.1 - 1)) + 1 := by decide +kernel
theorem pc6_le (a : Nat) : pc6 a ≤ 6 := cntN_le _ 6
theorem or_all : ∀ a : Fin 64, ∀ s : Fin 6, (Int32.ofNat a.1 ||| (1 <<< (Int32.ofNat s.1 &&& 31))) = Int32.ofNat (a.1 ||| (1 <<< s.1)) ∧ (a.1 ||| (1 <<< s.1)) < 64 := by decide +kernel
theorem sub_all : ∀ a : Fin 64, ∀ b : Fin 64, ((Int32.ofNat a.1 &&& (Int32.ofNat b.1 ^^^ -1)) = 0) ↔ a.1 &&& b.1 = a.1 := by decide +kernel
/-- who crosses on a day -/
def thr (I : Nat → Nat → Int32) (day : Nat) : Nat → Nat
  | 0 => 0
  | k + 1 => if onD I day k = true then thr I day k ||| (1 <<< cN (I 1094 k)) else thr I day k
/-- the least set that leaves a day uncrowded, of the first k sets -/
def lvN (I : Nat → Nat → Int32) (W b day there : Nat) : Nat → Nat
  | 0 => there
  | s + 1 => if s &&& there = s ∧ pc6 s < pc6 (lvN I W b day there s) ∧ crw I W b day s = none then s else lvN I W b day there s
theorem c_ne (I : Nat → Nat → Int32) (v : Int32) {a : Nat} (h : a ≠ 1069) : upI I 1069 2 v a = I a := funext fun j => upI_nea' h
theorem pl_c (I : Nat → Nat → Int32) (v : Int32) : pl (upI I 1069 2 v) = pl I := by
  funext i t; unfold pl; rw [c_ne I v (by decide), c_ne I v (by decide), c_ne I v (by decide)]
theorem mtT_c (I : Nat → Nat → Int32) (W i k sort : Nat) (v : Int32) : mtT (upI I 1069 2 v) W i k sort = mtT I W i k sort := by
  funext t; unfold mtT; rw [pl_c, wht_kp (k1 I v)]
theorem mt_c (I : Nat → Nat → Int32) (W i k sort : Nat) (v : Int32) : mt (upI I 1069 2 v) W i k sort = mt I W i k sort := by
  unfold mt; rw [mtT_c, c_ne I v (by decide)]
theorem crw_c (I : Nat → Nat → Int32) (W b day left : Nat) (v : Int32) : crw (upI I 1069 2 v) W b day left = crw I W b day left := by
  unfold crw
  refine fnd_congr (fun t _ => ?_)
  unfold gI
  congr 1
section RL
variable {w : jWD} {l : Launch} {n : Nat} {I J : Nat → Nat → Int32} {L : Nat → Nat → Int64} {R : Nat → Nat → Option Nat}

set_option maxHeartbeats 1000000 in
set_option maxRecDepth 20000 in
theorem tX11_meets (hW : jWok w l) (hR : RS R) {W H np len b : Nat} (hI : RI I W H np len) (hB : RK I W H np b) {i v sort : Nat} (hi : i < b) (hv : v < b) (hso : sort ≤ 2) : jCD w l mX11_meets 3 [.ref 1069, .int (nI i), .int (nI v), .int (nI sort)] (n, shE, I, L, R) (some (.int (oI (mt I W i v sort)))) (n, shE, I, L, R) := by
  refine jCD_of hW (by decide) rfl (Nat.le_of_ble_eq_true rfl) ?_
  have hT := hI.1.1
  have hz := hT.wh
  have hw3 := hT.2.2.1
  have hw9 := hT.2.2.2.1
  have hh1 := hT.2.2.2.2.1
  have hh7 := hT.2.2.2.2.2
  have hb12 := hB.2.1
  have hbi := hB.2.2 i hi
  have hbv := hB.2.2 v hv
  have hq1 := hbi.2.1.2
  have hq2 := hbv.2.1.2
  have key : cN (I 1095 i) = cN (I 1095 v) → ∀ t, t ≤ 96 → fnd (mtT I W i v sort) t = none → jWP w l mX11_meets 3 0 0 (fun r t => r = some (.int (oI (mt I W i v sort))) ∧ t = (n, shE, I, L, R)) (fun _ _ => False) 20 [(0, .ref 1069), (1, .int (nI i)), (2, .int (nI v)), (3, .int (nI sort)), (4, .int (nI t))] [] (n, shE, I, L, R) := by
    intro hdd
    refine jdown _ (fun t ht ih => ?_)
    intro hf
    refine jx_iload dX11_meets_20 rfl ?_
    refine jx_bipush (v := 96) dX11_meets_22 (by decide) ?_
    refine jx_icmpN_ge (a := t) (b := 96) 99 dX11_meets_24 (by decide) (by omega) (by omega) (fun h24 => ?_) (fun h24 => ?_)
    · refine jx_iconst (v := -1) dX11_meets_99 (by decide) ?_
      refine jx_iret dX11_meets_100 rfl ?_
      have h96 : t = 96 := by omega
      subst h96
      refine ⟨?_, rfl⟩
      have e : mt I W i v sort = none := by unfold mt; rw [if_pos hdd]; exact hf
      rw [e]; rfl
    · refine jx_aload_n dX11_meets_27 rfl ?_
      refine jx_iload_n dX11_meets_28 rfl ?_
      refine jx_iload dX11_meets_29 rfl ?_
      refine jx_Vi (as := [.int _, .int _]) dX11_meets_31 mlX11_473 okX11_placeOf viX11_placeOf rfl rfl rfl rfl rfl (by decide) (Nat.le_of_ble_eq_true rfl) (tX11_placeOf hW hR hB hi h24) ?_
      cases hp : pl I i t with
      | none =>
        show jWP w l mX11_meets 3 0 0 _ _ 34 _ [.int (-1)] _
        refine jx_istore dX11_meets_34 (by decide) ?_
        refine jx_iload dX11_meets_36 rfl ?_
        refine jx_iconst (v := -1) dX11_meets_38 (by decide) ?_
        refine jx_icmp_eq 93 dX11_meets_39 (by decide) (fun h39 => ?_) (fun h39 => ?_)
        · refine jx_iinc dX11_meets_93 rfl (v := nI (t + 1)) (nI_1 _) (by decide) ?_
          refine jx_goto 20 dX11_meets_96 (by decide) ?_
          refine jx_ls (by exact ⟨rfl, rfl, rfl, rfl, rfl, trivial⟩) (ih h24 ?_)
          show (match fnd (mtT I W i v sort) t with | some t => some t | none => if mtT I W i v sort t = true then some t else none) = none
          rw [hf]
          refine if_neg (fun z => ?_)
          unfold mtT at z
          rw [hp] at z
          cases z
        · exact absurd rfl h39
      | some c =>
        have hcl := pl_lt hB hi hp
        show jWP w l mX11_meets 3 0 0 _ _ 34 _ [.int (nI c)] _
        refine jx_istore dX11_meets_34 (by decide) ?_
        refine jx_iload dX11_meets_36 rfl ?_
        refine jx_iconst (v := -1) dX11_meets_38 (by decide) ?_
        refine jx_icmp_eq 93 dX11_meets_39 (by decide) (fun h39 => ?_) (fun h39 => ?_)
        · exfalso
          have e2 := congrArg Int32.toInt h39
          rw [nI_toInt (by omega), show (-1 : Int32).toInt = -1 from by decide] at e2
          omega
        · refine jx_iload dX11_meets_42 rfl ?_
          refine jx_aload_n dX11_meets_44 rfl ?_
          refine jx_iload_n dX11_meets_45 rfl ?_
          refine jx_iload dX11_meets_46 rfl ?_
          refine jx_Vi (as := [.int _, .int _]) dX11_meets_48 mlX11_473 okX11_placeOf viX11_placeOf rfl rfl rfl rfl rfl (by decide) (Nat.le_of_ble_eq_true rfl) (tX11_placeOf hW hR hB hv h24) ?_
          refine jx_icmp_ne 93 dX11_meets_51 (by decide) (fun h51 => ?_) (fun h51 => ?_)
          · refine jx_iinc dX11_meets_93 rfl (v := nI (t + 1)) (nI_1 _) (by decide) ?_
            refine jx_goto 20 dX11_meets_96 (by decide) ?_
            refine jx_ls (by exact ⟨rfl, rfl, rfl, rfl, rfl, trivial⟩) (ih h24 ?_)
            show (match fnd (mtT I W i v sort) t with | some t => some t | none => if mtT I W i v sort t = true then some t else none) = none
            rw [hf]
            refine if_neg (fun z => ?_)
            unfold mtT at z
            rw [hp] at z
            simp only [Bool.and_eq_true, Bool.not_eq_true', decide_eq_false_iff_not, decide_eq_true_eq, Bool.or_eq_true] at z
            first | exact h51 ((oI_eq (fun a ha => by have := pl_lt hB hv ha; omega) (by omega)).mpr z.1.1.1) | exact z.1.1.2 (of_decide_eq_true h60) | exact z.1.2 (of_decide_eq_true h69) | exact z.2.elim h76 (fun y => h87 y)
          · refine jx_aload_n dX11_meets_54 rfl ?_
            refine jx_iload dX11_meets_55 rfl ?_
            refine jx_Vi (as := [.int _]) dX11_meets_57 mlX11_393 okX11_isShore viX11_isShore rfl rfl rfl rfl rfl (by decide) (Nat.le_of_ble_eq_true rfl) (tX11_isShore hW hR hT (by omega)) ?_
            refine jx_ifB_ne 93 dX11_meets_60 (by decide) (fun h60 => ?_) (fun h60 => ?_)
            · refine jx_iinc dX11_meets_93 rfl (v := nI (t + 1)) (nI_1 _) (by decide) ?_
              refine jx_goto 20 dX11_meets_96 (by decide) ?_
              refine jx_ls (by exact ⟨rfl, rfl, rfl, rfl, rfl, trivial⟩) (ih h24 ?_)
              show (match fnd (mtT I W i v sort) t with | some t => some t | none => if mtT I W i v sort t = true then some t else none) = none
              rw [hf]
              refine if_neg (fun z => ?_)
              unfold mtT at z
              rw [hp] at z
              simp only [Bool.and_eq_true, Bool.not_eq_true', decide_eq_false_iff_not, decide_eq_true_eq, Bool.or_eq_true] at z
              first | exact h51 ((oI_eq (fun a ha => by have := pl_lt hB hv ha; omega) (by omega)).mpr z.1.1.1) | exact z.1.1.2 (of_decide_eq_true h60) | exact z.1.2 (of_decide_eq_true h69) | exact z.2.elim h76 (fun y => h87 y)
            · refine jx_aload_n dX11_meets_63 rfl ?_
              refine jx_iload dX11_meets_64 rfl ?_
              refine jx_Vi (as := [.int _]) dX11_meets_66 mlX11_396 okX11_isIsland viX11_isIsland rfl rfl rfl rfl rfl (by decide) (Nat.le_of_ble_eq_true rfl) (tX11_isIsland hW hR hT (by omega)) ?_
              refine jx_ifB_eq 75 dX11_meets_69 (by decide) (fun h69 => ?_) (fun h69 => ?_)
              · refine jx_iload_n dX11_meets_75 rfl ?_
                refine jx_ifN_eq (a := sort) 90 dX11_meets_76 (by decide) (by omega) (fun h76 => ?_) (fun h76 => ?_)
                · refine jx_iload dX11_meets_90 rfl ?_
                  refine jx_iret dX11_meets_92 rfl ?_
                  refine ⟨?_, rfl⟩
                  have hT1 : mtT I W i v sort t = true := by
                    unfold mtT
                    rw [hp]
                    simp only [Bool.and_eq_true, Bool.not_eq_true', decide_eq_false_iff_not, decide_eq_true_eq, Bool.or_eq_true]
                    refine ⟨⟨⟨(oI_eq (fun a ha => by have := pl_lt hB hv ha; omega) (by omega)).mp h51, of_decide_eq_false h60⟩, of_decide_eq_false h69⟩, ?_⟩
                    first | exact Or.inl h76 | exact Or.inr h87
                  have e : mt I W i v sort = some t := by unfold mt; rw [if_pos hdd]; exact fnd_some.mpr ⟨h24, hT1, fnd_none.mp hf⟩
                  rw [e]; rfl
                · have hwl : wht I c ≤ 2 := (hI.2.1 c hcl).2.2
                  refine jx_aload_n dX11_meets_79 rfl ?_
                  refine jx_getR dX11_meets_80 flX11_41 rfl rfl (hR _ _ _ rfl) ?_
                  refine jx_iload dX11_meets_83 rfl ?_
                  refine jx_ialdE (c) dX11_meets_85 rfl (rfl) (by omega) (by omega) ((hI.2.1 c hcl).2.1) ?_
                  refine jx_iload_n dX11_meets_86 rfl ?_
                  refine jx_icmpN_ne (a := (wht I c)) (b := sort) 93 dX11_meets_87 (by decide) (by omega) (by omega) (fun h87 => ?_) (fun h87 => ?_)
                  · refine jx_iinc dX11_meets_93 rfl (v := nI (t + 1)) (nI_1 _) (by decide) ?_
                    refine jx_goto 20 dX11_meets_96 (by decide) ?_
                    refine jx_ls (by exact ⟨rfl, rfl, rfl, rfl, rfl, trivial⟩) (ih h24 ?_)
                    show (match fnd (mtT I W i v sort) t with | some t => some t | none => if mtT I W i v sort t = true then some t else none) = none
                    rw [hf]
                    refine if_neg (fun z => ?_)
                    unfold mtT at z
                    rw [hp] at z
                    simp only [Bool.and_eq_true, Bool.not_eq_true', decide_eq_false_iff_not, decide_eq_true_eq, Bool.or_eq_true] at z
                    first | exact h51 ((oI_eq (fun a ha => by have := pl_lt hB hv ha; omega) (by omega)).mpr z.1.1.1) | exact z.1.1.2 (of_decide_eq_true h60) | exact z.1.2 (of_decide_eq_true h69) | exact z.2.elim h76 (fun y => h87 y)
                  · refine jx_iload dX11_meets_90 rfl ?_
                    refine jx_iret dX11_meets_92 rfl ?_
                    refine ⟨?_, rfl⟩
                    have hT1 : mtT I W i v sort t = true := by
                      unfold mtT
                      rw [hp]
                      simp only [Bool.and_eq_true, Bool.not_eq_true', decide_eq_false_iff_not, decide_eq_true_eq, Bool.or_eq_true]
                      refine ⟨⟨⟨(oI_eq (fun a ha => by have := pl_lt hB hv ha; omega) (by omega)).mp h51, of_decide_eq_false h60⟩, of_decide_eq_false h69⟩, ?_⟩
                      first | exact Or.inl h76 | exact Or.inr h87
                    have e : mt I W i v sort = some t := by unfold mt; rw [if_pos hdd]; exact fnd_some.mpr ⟨h24, hT1, fnd_none.mp hf⟩
                    rw [e]; rfl
              · refine jx_goto 93 dX11_meets_72 (by decide) ?_
                refine jx_iinc dX11_meets_93 rfl (v := nI (t + 1)) (nI_1 _) (by decide) ?_
                refine jx_goto 20 dX11_meets_96 (by decide) ?_
                refine jx_ls (by exact ⟨rfl, rfl, rfl, rfl, rfl, trivial⟩) (ih h24 ?_)
                show (match fnd (mtT I W i v sort) t with | some t => some t | none => if mtT I W i v sort t = true then some t else none) = none
                rw [hf]
                refine if_neg (fun z => ?_)
                unfold mtT at z
                rw [hp] at z
                simp only [Bool.and_eq_true, Bool.not_eq_true', decide_eq_false_iff_not, decide_eq_true_eq, Bool.or_eq_true] at z
                first | exact h51 ((oI_eq (fun a ha => by have := pl_lt hB hv ha; omega) (by omega)).mpr z.1.1.1) | exact z.1.1.2 (of_decide_eq_true h60) | exact z.1.2 (of_decide_eq_true h69) | exact z.2.elim h76 (fun y => h87 y)
  refine jx_aload_n dX11_meets_0 rfl ?_
  refine jx_getR dX11_meets_1 flX11_112 rfl rfl (hR _ _ _ rfl) ?_
  refine jx_iload_n dX11_meets_4 rfl ?_
  refine jx_ialdE (i) dX11_meets_5 rfl (rfl) (by omega) (by omega) (hbi.2.1.1) ?_
  refine jx_aload_n dX11_meets_6 rfl ?_
  refine jx_getR dX11_meets_7 flX11_112 rfl rfl (hR _ _ _ rfl) ?_
  refine jx_iload_n dX11_meets_10 rfl ?_
  refine jx_ialdE (v) dX11_meets_11 rfl (rfl) (by omega) (by omega) (hbv.2.1.1) ?_
  refine jx_icmpN_eq (a := (cN (I 1095 i))) (b := (cN (I 1095 v))) 17 dX11_meets_12 (by decide) (by omega) (by omega) (fun h12 => ?_) (fun h12 => ?_)
  · refine jx_iconst (v := 0) dX11_meets_17 (by decide) ?_
    refine jx_istore dX11_meets_18 (by decide) ?_
    exact jx_ls (by exact ⟨rfl, rfl, rfl, rfl, rfl, trivial⟩) (key h12 0 (by omega) rfl)
  · refine jx_iconst (v := -1) dX11_meets_15 (by decide) ?_
    refine jx_iret dX11_meets_16 rfl ?_
    refine ⟨?_, rfl⟩
    unfold mt
    rw [if_neg h12]; rfl
set_option maxHeartbeats 1000000 in
set_option maxRecDepth 20000 in
theorem tX11_metF (hW : jWok w l) (hR : RS R) {W H np len : Nat} (hI : RI I W H np len) (i v : Int32) {b : Nat} (hB : RK I W H np b) (hbad : ¬ (ltQ i b = true ∧ ltQ v b = true)) : jCD w l mX11_met 3 [.ref 1069, .int i, .int v] (n, shE, I, L, R) (some (.int 0)) (n, shE, upI I 1069 2 1, L, R) := by
  refine jCD_of hW (by decide) rfl (Nat.le_of_ble_eq_true rfl) ?_
  have hI0 := hI.kp (k0 I)
  refine jx_aload_n dX11_met_0 rfl ?_
  refine jx_iconst (v := 0) dX11_met_1 (by decide) ?_
  refine jx_putI dX11_met_2 flX11_187 rfl rfl (fun r h => by cases h; rfl) ?_
  refine jx_aload_n dX11_met_5 rfl ?_
  refine jx_iload_n dX11_met_6 rfl ?_
  refine jx_Vi (as := [.int _]) dX11_met_7 mlX11_470 okX11_isBooked viX11_isBooked rfl rfl rfl rfl rfl (by decide) (Nat.le_of_ble_eq_true rfl) (tX11_isBooked hW hR (hB.c 0).1 hB.2.1 _) ?_
  refine jx_ifB_eq 21 dX11_met_10 (by decide) (fun h10 => ?_) (fun h10 => ?_)
  · refine jx_aload_n dX11_met_21 rfl ?_
    refine jx_iconst (v := 1) dX11_met_22 (by decide) ?_
    refine jx_Vi (as := [.int _]) dX11_met_23 mlX11_351 okX11_fail viX11_fail rfl rfl rfl rfl rfl (by decide) (Nat.le_of_ble_eq_true rfl) (tX11_fail hW _) ?_
    refine jx_iret dX11_met_26 rfl ?_
    exact ⟨rfl, by rw [up_up]⟩
  · refine jx_aload_n dX11_met_13 rfl ?_
    refine jx_iload_n dX11_met_14 rfl ?_
    refine jx_Vi (as := [.int _]) dX11_met_15 mlX11_470 okX11_isBooked viX11_isBooked rfl rfl rfl rfl rfl (by decide) (Nat.le_of_ble_eq_true rfl) (tX11_isBooked hW hR (hB.c 0).1 hB.2.1 _) ?_
    refine jx_ifB_ne 27 dX11_met_18 (by decide) (fun h18 => ?_) (fun h18 => ?_)
    · exact absurd ⟨h10, h18⟩ hbad
    · refine jx_aload_n dX11_met_21 rfl ?_
      refine jx_iconst (v := 1) dX11_met_22 (by decide) ?_
      refine jx_Vi (as := [.int _]) dX11_met_23 mlX11_351 okX11_fail viX11_fail rfl rfl rfl rfl rfl (by decide) (Nat.le_of_ble_eq_true rfl) (tX11_fail hW _) ?_
      refine jx_iret dX11_met_26 rfl ?_
      exact ⟨rfl, by rw [up_up]⟩
set_option maxHeartbeats 1000000 in
set_option maxRecDepth 20000 in
theorem tX11_metF2 (hW : jWok w l) (hR : RS R) {W H np len : Nat} (hI : RI I W H np len) {b : Nat} (hB : RK I W H np b) {i : Nat} (hi : i < b) : jCD w l mX11_met 3 [.ref 1069, .int (nI i), .int (nI i)] (n, shE, I, L, R) (some (.int 0)) (n, shE, upI I 1069 2 2, L, R) := by
  refine jCD_of hW (by decide) rfl (Nat.le_of_ble_eq_true rfl) ?_
  refine jx_aload_n dX11_met_0 rfl ?_
  refine jx_iconst (v := 0) dX11_met_1 (by decide) ?_
  refine jx_putI dX11_met_2 flX11_187 rfl rfl (fun r h => by cases h; rfl) ?_
  refine jx_aload_n dX11_met_5 rfl ?_
  refine jx_iload_n dX11_met_6 rfl ?_
  refine jx_Vi (as := [.int _]) dX11_met_7 mlX11_470 okX11_isBooked viX11_isBooked rfl rfl rfl rfl rfl (by decide) (Nat.le_of_ble_eq_true rfl) (tX11_isBookedT hW hR (hB.c 0).1 hB.2.1 hi) ?_
  refine jx_ifB_eq 21 dX11_met_10 (by decide) (fun h10 => by cases h10) (fun h10 => ?_)
  refine jx_aload_n dX11_met_13 rfl ?_
  refine jx_iload_n dX11_met_14 rfl ?_
  refine jx_Vi (as := [.int _]) dX11_met_15 mlX11_470 okX11_isBooked viX11_isBooked rfl rfl rfl rfl rfl (by decide) (Nat.le_of_ble_eq_true rfl) (tX11_isBookedT hW hR (hB.c 0).1 hB.2.1 hi) ?_
  refine jx_ifB_ne 27 dX11_met_18 (by decide) (fun h18 => ?_) (fun h18 => by cases h18)
  refine jx_iload_n dX11_met_27 rfl ?_
  refine jx_iload_n dX11_met_28 rfl ?_
  refine jx_icmp_ne 40 dX11_met_29 (by decide) (fun h29 => ?_) (fun h29 => ?_)
  · exact absurd rfl h29
  · refine jx_aload_n dX11_met_32 rfl ?_
    refine jx_iconst (v := 2) dX11_met_33 (by decide) ?_
    refine jx_Vi (as := [.int _]) dX11_met_34 mlX11_351 okX11_fail viX11_fail rfl rfl rfl rfl rfl (by decide) (Nat.le_of_ble_eq_true rfl) (tX11_fail hW _) ?_
    refine jx_goto 47 dX11_met_37 (by decide) ?_
    refine jx_iret dX11_met_47 rfl ?_
    exact ⟨rfl, by rw [up_up]⟩
set_option maxHeartbeats 1000000 in
set_option maxRecDepth 20000 in
theorem tX11_met (hW : jWok w l) (hR : RS R) {W H np len : Nat} (hI : RI I W H np len) {b : Nat} (hB : RK I W H np b) {i v : Nat} (hi : i < b) (hv : v < b) (hne : i ≠ v) : jRi w l mX11_met 5 [.ref 1069, .int (nI i), .int (nI v)] (n, shE, I, L, R) (fun r t => r = oI (mt I W i v 0) ∧ ∃ J, t = (n, shE, J, L, R) ∧ eqs (upI I 1069 2 0) J) := by
  refine jRi_of hW (by decide) rfl (Nat.le_of_ble_eq_true rfl) ?_
  have hI0 := hI.kp (k0 I)
  have hT := hI0.1.1
  have hz := hT.wh
  have hw3 := hT.2.2.1
  have hw9 := hT.2.2.2.1
  have hh1 := hT.2.2.2.2.1
  have hh7 := hT.2.2.2.2.2
  have hnp := hI0.2.2.2.2.1.2
  have hb12 := hB.2.1
  refine jx_aload_n dX11_met_0 rfl ?_
  refine jx_iconst (v := 0) dX11_met_1 (by decide) ?_
  refine jx_putI dX11_met_2 flX11_187 rfl rfl (fun r h => by cases h; rfl) ?_
  refine jx_aload_n dX11_met_5 rfl ?_
  refine jx_iload_n dX11_met_6 rfl ?_
  refine jx_Vi (as := [.int _]) dX11_met_7 mlX11_470 okX11_isBooked viX11_isBooked rfl rfl rfl rfl rfl (by decide) (Nat.le_of_ble_eq_true rfl) (tX11_isBookedT hW hR (hB.c 0).1 hB.2.1 hi) ?_
  refine jx_ifB_eq 21 dX11_met_10 (by decide) (fun h10 => by cases h10) (fun h10 => ?_)
  refine jx_aload_n dX11_met_13 rfl ?_
  refine jx_iload_n dX11_met_14 rfl ?_
  refine jx_Vi (as := [.int _]) dX11_met_15 mlX11_470 okX11_isBooked viX11_isBooked rfl rfl rfl rfl rfl (by decide) (Nat.le_of_ble_eq_true rfl) (tX11_isBookedT hW hR (hB.c 0).1 hB.2.1 hv) ?_
  refine jx_ifB_ne 27 dX11_met_18 (by decide) (fun h18 => ?_) (fun h18 => by cases h18)
  refine jx_iload_n dX11_met_27 rfl ?_
  refine jx_iload_n dX11_met_28 rfl ?_
  refine jx_icmpN_ne (a := i) (b := v) 40 dX11_met_29 (by decide) (by omega) (by omega) (fun h29 => ?_) (fun h29 => ?_)
  · refine jx_aload_n dX11_met_40 rfl ?_
    refine jx_iload_n dX11_met_41 rfl ?_
    refine jx_iload_n dX11_met_42 rfl ?_
    refine jx_iconst (v := 0) dX11_met_43 (by decide) ?_
    refine jx_Vi (as := [.int _, .int _, .int _]) dX11_met_44 mlX11_476 okX11_meets viX11_meets rfl rfl rfl rfl rfl (by decide) (Nat.le_of_ble_eq_true rfl) (tX11_meets (sort := 0) hW hR hI0 (hB.c 0) hi hv (by omega)) ?_
    refine jx_iret dX11_met_47 rfl ?_
    refine ⟨_, rfl, ?_, _, rfl, eqs_r _⟩
    exact congrArg oI (mt_c I W i v 0 0)
  · exact absurd h29 hne
set_option maxHeartbeats 1000000 in
set_option maxRecDepth 20000 in
theorem tX11_crowdedBut (hW : jWok w l) (hR : RS R) {W H np len b : Nat} (hI : RI I W H np len) (hB : RK I W H np b) {day left : Nat} (hd : day ≤ 40) (hl : left < 64) : jCD w l mX11_crowdedBut 5 [.ref 1069, .int (nI day), .int (nI left)] (n, shE, I, L, R) (some (.int (oI (crw I W b day left)))) (n, shE, I, L, R) := by
  refine jCD_of hW (by decide) rfl (Nat.le_of_ble_eq_true rfl) ?_
  have hnp := hI.2.2.2.2.1.2
  obtain ⟨hb, hb12, hbk⟩ := hB
  have hB : RK I W H np b := ⟨hb, hb12, hbk⟩
  have key : ∀ i, i ≤ b → jWP w l mX11_crowdedBut 5 0 0 (fun r t => r = some (.int (oI (crw I W b day left))) ∧ t = (n, shE, I, L, R)) (fun _ _ => False) 5 [(0, .ref 1069), (1, .int (nI day)), (2, .int (nI left)), (3, .int (oI (fnd (gI I W day left i) 96))), (4, .int (nI i))] [] (n, shE, I, L, R) := by
    refine jdown _ (fun i hi ih => ?_)
    have keyK : i < b → ∀ k, k ≤ i → jWP w l mX11_crowdedBut 5 0 0 (fun r t => r = some (.int (oI (crw I W b day left))) ∧ t = (n, shE, I, L, R)) (fun _ _ => False) 17 [(0, .ref 1069), (1, .int (nI day)), (2, .int (nI left)), (3, .int (oI (fnd (gK I W day left i k) 96))), (4, .int (nI i)), (5, .int (nI k))] [] (n, shE, I, L, R) := by
      intro hib
      refine jdown _ (fun k hk ihk => ?_)
      have hbi := hbk i hib
      have hq1 := hbi.1.2
      have hq2 := hbi.2.1.2
      refine jx_iload dX11_crowdedBut_17 rfl ?_
      refine jx_iload dX11_crowdedBut_19 rfl ?_
      refine jx_icmpN_ge (a := k) (b := i) 116 dX11_crowdedBut_21 (by decide) (by omega) (by omega) (fun h21 => ?_) (fun h21 => ?_)
      · refine jx_iinc dX11_crowdedBut_116 rfl (v := nI (i + 1)) (nI_1 _) (by decide) ?_
        refine jx_goto 5 dX11_crowdedBut_119 (by decide) ?_
        have hki : k = i := by omega
        subst hki
        have kk := ih hib
        rw [← gK_i] at kk
        exact jx_ls (by exact ⟨rfl, rfl, rfl, rfl, rfl, trivial⟩) kk
      · have hbk1 := hbk k (by omega)
        have hq3 := hbk1.1.2
        have hq4 := hbk1.2.1.2
        refine jx_aload_n dX11_crowdedBut_24 rfl ?_
        refine jx_getR dX11_crowdedBut_25 flX11_112 rfl rfl (hR _ _ _ rfl) ?_
        refine jx_iload dX11_crowdedBut_28 rfl ?_
        refine jx_ialdE (i) dX11_crowdedBut_30 rfl (rfl) (by omega) (by omega) (hbi.2.1.1) ?_
        refine jx_iload_n dX11_crowdedBut_31 rfl ?_
        refine jx_icmpN_ne (a := (cN (I 1095 i))) (b := day) 110 dX11_crowdedBut_32 (by decide) (by omega) (by omega) (fun h32 => ?_) (fun h32 => ?_)
        · refine jx_iinc dX11_crowdedBut_110 rfl (v := nI (k + 1)) (nI_1 _) (by decide) ?_
          refine jx_goto 17 dX11_crowdedBut_113 (by decide) ?_
          have kk := ihk h21
          rw [gK_s, fnd_congr (g := gK I W day left i k) (fun t _ => by rw [pr_off (by first | exact Or.inl (decide_eq_false h32) | exact Or.inr (Or.inl (decide_eq_false h43)) | exact Or.inr (Or.inr (Or.inl (jb_1.mp h58))) | exact Or.inr (Or.inr (Or.inr (jb_1.mp h73)))), Bool.or_false])] at kk
          exact jx_ls (by exact ⟨rfl, rfl, rfl, rfl, rfl, rfl, trivial⟩) kk
        · refine jx_aload_n dX11_crowdedBut_35 rfl ?_
          refine jx_getR dX11_crowdedBut_36 flX11_112 rfl rfl (hR _ _ _ rfl) ?_
          refine jx_iload dX11_crowdedBut_39 rfl ?_
          refine jx_ialdE (k) dX11_crowdedBut_41 rfl (rfl) (by omega) (by omega) (hbk1.2.1.1) ?_
          refine jx_iload_n dX11_crowdedBut_42 rfl ?_
          refine jx_icmpN_ne (a := (cN (I 1095 k))) (b := day) 110 dX11_crowdedBut_43 (by decide) (by omega) (by omega) (fun h43 => ?_) (fun h43 => ?_)
          · refine jx_iinc dX11_crowdedBut_110 rfl (v := nI (k + 1)) (nI_1 _) (by decide) ?_
            refine jx_goto 17 dX11_crowdedBut_113 (by decide) ?_
            have kk := ihk h21
            rw [gK_s, fnd_congr (g := gK I W day left i k) (fun t _ => by rw [pr_off (by first | exact Or.inl (decide_eq_false h32) | exact Or.inr (Or.inl (decide_eq_false h43)) | exact Or.inr (Or.inr (Or.inl (jb_1.mp h58))) | exact Or.inr (Or.inr (Or.inr (jb_1.mp h73)))), Bool.or_false])] at kk
            exact jx_ls (by exact ⟨rfl, rfl, rfl, rfl, rfl, rfl, trivial⟩) kk
          · refine jx_iload_n dX11_crowdedBut_46 rfl ?_
            refine jx_aload_n dX11_crowdedBut_47 rfl ?_
            refine jx_getR dX11_crowdedBut_48 flX11_109 rfl rfl (hR _ _ _ rfl) ?_
            refine jx_iload dX11_crowdedBut_51 rfl ?_
            refine jx_ialdE (i) dX11_crowdedBut_53 rfl (rfl) (by omega) (by omega) (hbi.1.1) ?_
            refine jx_ishr dX11_crowdedBut_54 ?_
            refine jx_iconst (v := 1) dX11_crowdedBut_55 (by decide) ?_
            refine jx_iandE (z := jb (left.testBit (cN (I 1094 i)))) dX11_crowdedBut_56 (bit_eq hl (by omega)) ?_
            refine jx_iconst (v := 1) dX11_crowdedBut_57 (by decide) ?_
            refine jx_icmp_eq 110 dX11_crowdedBut_58 (by decide) (fun h58 => ?_) (fun h58 => ?_)
            · refine jx_iinc dX11_crowdedBut_110 rfl (v := nI (k + 1)) (nI_1 _) (by decide) ?_
              refine jx_goto 17 dX11_crowdedBut_113 (by decide) ?_
              have kk := ihk h21
              rw [gK_s, fnd_congr (g := gK I W day left i k) (fun t _ => by rw [pr_off (by first | exact Or.inl (decide_eq_false h32) | exact Or.inr (Or.inl (decide_eq_false h43)) | exact Or.inr (Or.inr (Or.inl (jb_1.mp h58))) | exact Or.inr (Or.inr (Or.inr (jb_1.mp h73)))), Bool.or_false])] at kk
              exact jx_ls (by exact ⟨rfl, rfl, rfl, rfl, rfl, rfl, trivial⟩) kk
            · refine jx_iload_n dX11_crowdedBut_61 rfl ?_
              refine jx_aload_n dX11_crowdedBut_62 rfl ?_
              refine jx_getR dX11_crowdedBut_63 flX11_109 rfl rfl (hR _ _ _ rfl) ?_
              refine jx_iload dX11_crowdedBut_66 rfl ?_
              refine jx_ialdE (k) dX11_crowdedBut_68 rfl (rfl) (by omega) (by omega) (hbk1.1.1) ?_
              refine jx_ishr dX11_crowdedBut_69 ?_
              refine jx_iconst (v := 1) dX11_crowdedBut_70 (by decide) ?_
              refine jx_iandE (z := jb (left.testBit (cN (I 1094 k)))) dX11_crowdedBut_71 (bit_eq hl (by omega)) ?_
              refine jx_iconst (v := 1) dX11_crowdedBut_72 (by decide) ?_
              refine jx_icmp_ne 79 dX11_crowdedBut_73 (by decide) (fun h73 => ?_) (fun h73 => ?_)
              · refine jx_aload_n dX11_crowdedBut_79 rfl ?_
                refine jx_iload dX11_crowdedBut_80 rfl ?_
                refine jx_iload dX11_crowdedBut_82 rfl ?_
                refine jx_iconst (v := 2) dX11_crowdedBut_84 (by decide) ?_
                refine jx_Vi (as := [.int _, .int _, .int _]) dX11_crowdedBut_85 mlX11_476 okX11_meets viX11_meets rfl rfl rfl rfl rfl (by decide) (Nat.le_of_ble_eq_true rfl) (tX11_meets (sort := 2) hW hR hI hB hib (by omega) (by omega)) ?_
                have o1 : onD I day i = true := decide_eq_true h32
                have o2 : onD I day k = true := decide_eq_true h43
                have o3 := jb_n1 h58
                have o4 := jb_n1 h73
                rw [mt_on o1 o2]
                have kk := ihk h21
                rw [gK_s, fnd_or, pr_on o1 o2 o3 o4] at kk
                cases hm : fnd (mtT I W i k 2) 96 with
                | none =>
                  show jWP w l mX11_crowdedBut 5 0 0 _ _ 88 _ [.int (-1)] _
                  refine jx_istore dX11_crowdedBut_88 (by decide) ?_
                  refine jx_iload dX11_crowdedBut_90 rfl ?_
                  refine jx_iconst (v := -1) dX11_crowdedBut_92 (by decide) ?_
                  refine jx_icmp_eq 110 dX11_crowdedBut_93 (by decide) (fun h93 => ?_) (fun h93 => ?_)
                  · refine jx_iinc dX11_crowdedBut_110 rfl (v := nI (k + 1)) (nI_1 _) (by decide) ?_
                    refine jx_goto 17 dX11_crowdedBut_113 (by decide) ?_
                    rw [hm] at kk
                    rw [show omin (fnd (gK I W day left i k) 96) none = fnd (gK I W day left i k) 96 from by cases fnd (gK I W day left i k) 96 <;> rfl] at kk
                    exact jx_ls (by exact ⟨rfl, rfl, rfl, rfl, rfl, rfl, trivial⟩) kk
                  · exact absurd rfl h93
                | some a =>
                  have hal := fnd_lt hm
                  show jWP w l mX11_crowdedBut 5 0 0 _ _ 88 _ [.int (nI a)] _
                  cases hx : fnd (gK I W day left i k) 96 with
                  | none =>
                    show jWP w l mX11_crowdedBut 5 0 0 _ _ 88 [(0, .ref 1069), (1, .int (nI day)), (2, .int (nI left)), (3, .int (-1)), (4, .int (nI i)), (5, .int (nI k))] [.int (nI a)] _
                    refine jx_istore dX11_crowdedBut_88 (by decide) ?_
                    refine jx_iload dX11_crowdedBut_90 rfl ?_
                    refine jx_iconst (v := -1) dX11_crowdedBut_92 (by decide) ?_
                    refine jx_icmp_eq 110 dX11_crowdedBut_93 (by decide) (fun h93 => ?_) (fun h93 => ?_)
                    · exfalso
                      have e2 := congrArg Int32.toInt h93
                      rw [nI_toInt (by omega), show (-1 : Int32).toInt = -1 from by decide] at e2
                      omega
                    · refine jx_iload_n dX11_crowdedBut_96 rfl ?_
                      refine jx_iconst (v := -1) dX11_crowdedBut_97 (by decide) ?_
                      refine jx_icmp_eq 107 dX11_crowdedBut_98 (by decide) (fun h98 => ?_) (fun h98 => ?_)
                      · refine jx_iload dX11_crowdedBut_107 rfl ?_
                        refine jx_istore_n dX11_crowdedBut_109 rfl (by decide) ?_
                        refine jx_iinc dX11_crowdedBut_110 rfl (v := nI (k + 1)) (nI_1 _) (by decide) ?_
                        refine jx_goto 17 dX11_crowdedBut_113 (by decide) ?_
                        rw [hm, hx] at kk
                        exact jx_ls (by exact ⟨rfl, rfl, rfl, rfl, rfl, rfl, trivial⟩) kk
                      · exact absurd rfl h98
                  | some x =>
                    have hxl := fnd_lt hx
                    show jWP w l mX11_crowdedBut 5 0 0 _ _ 88 [(0, .ref 1069), (1, .int (nI day)), (2, .int (nI left)), (3, .int (nI x)), (4, .int (nI i)), (5, .int (nI k))] [.int (nI a)] _
                    refine jx_istore dX11_crowdedBut_88 (by decide) ?_
                    refine jx_iload dX11_crowdedBut_90 rfl ?_
                    refine jx_iconst (v := -1) dX11_crowdedBut_92 (by decide) ?_
                    refine jx_icmp_eq 110 dX11_crowdedBut_93 (by decide) (fun h93 => ?_) (fun h93 => ?_)
                    · exfalso
                      have e2 := congrArg Int32.toInt h93
                      rw [nI_toInt (by omega), show (-1 : Int32).toInt = -1 from by decide] at e2
                      omega
                    · refine jx_iload_n dX11_crowdedBut_96 rfl ?_
                      refine jx_iconst (v := -1) dX11_crowdedBut_97 (by decide) ?_
                      refine jx_icmp_eq 107 dX11_crowdedBut_98 (by decide) (fun h98 => ?_) (fun h98 => ?_)
                      · exfalso
                        have e2 := congrArg Int32.toInt h98
                        rw [nI_toInt (by omega), show (-1 : Int32).toInt = -1 from by decide] at e2
                        omega
                      · refine jx_iload dX11_crowdedBut_101 rfl ?_
                        refine jx_iload_n dX11_crowdedBut_103 rfl ?_
                        refine jx_icmpN_ge (a := a) (b := x) 110 dX11_crowdedBut_104 (by decide) (by omega) (by omega) (fun h104 => ?_) (fun h104 => ?_)
                        · refine jx_iinc dX11_crowdedBut_110 rfl (v := nI (k + 1)) (nI_1 _) (by decide) ?_
                          refine jx_goto 17 dX11_crowdedBut_113 (by decide) ?_
                          rw [hm, hx] at kk
                          rw [show omin (some x) (some a) = some x from by show some (if a < x then a else x) = _; first | rw [if_pos h104] | rw [if_neg (by omega)]] at kk
                          exact jx_ls (by exact ⟨rfl, rfl, rfl, rfl, rfl, rfl, trivial⟩) kk
                        · refine jx_iload dX11_crowdedBut_107 rfl ?_
                          refine jx_istore_n dX11_crowdedBut_109 rfl (by decide) ?_
                          refine jx_iinc dX11_crowdedBut_110 rfl (v := nI (k + 1)) (nI_1 _) (by decide) ?_
                          refine jx_goto 17 dX11_crowdedBut_113 (by decide) ?_
                          rw [hm, hx] at kk
                          rw [show omin (some x) (some a) = some a from by show some (if a < x then a else x) = _; first | rw [if_pos h104] | rw [if_neg (by omega)]] at kk
                          exact jx_ls (by exact ⟨rfl, rfl, rfl, rfl, rfl, rfl, trivial⟩) kk
              · refine jx_goto 110 dX11_crowdedBut_76 (by decide) ?_
                refine jx_iinc dX11_crowdedBut_110 rfl (v := nI (k + 1)) (nI_1 _) (by decide) ?_
                refine jx_goto 17 dX11_crowdedBut_113 (by decide) ?_
                have kk := ihk h21
                rw [gK_s, fnd_congr (g := gK I W day left i k) (fun t _ => by rw [pr_off (by first | exact Or.inl (decide_eq_false h32) | exact Or.inr (Or.inl (decide_eq_false h43)) | exact Or.inr (Or.inr (Or.inl (jb_1.mp h58))) | exact Or.inr (Or.inr (Or.inr (jb_1.mp h73)))), Bool.or_false])] at kk
                exact jx_ls (by exact ⟨rfl, rfl, rfl, rfl, rfl, rfl, trivial⟩) kk
    refine jx_iload dX11_crowdedBut_5 rfl ?_
    refine jx_aload_n dX11_crowdedBut_7 rfl ?_
    refine jx_getIE dX11_crowdedBut_8 flX11_363 rfl rfl (hb) ?_
    refine jx_icmpN_ge (a := i) (b := b) 122 dX11_crowdedBut_11 (by decide) (by omega) (by omega) (fun h11 => ?_) (fun h11 => ?_)
    · refine jx_iload_n dX11_crowdedBut_122 rfl ?_
      refine jx_iret dX11_crowdedBut_123 rfl ?_
      have hib : i = b := by omega
      subst hib
      exact ⟨rfl, rfl⟩
    · refine jx_iconst (v := 0) dX11_crowdedBut_14 (by decide) ?_
      refine jx_istore dX11_crowdedBut_15 (by decide) ?_
      have kk := keyK h11 0 (by omega)
      rw [gK_0] at kk
      exact jx_ls (by exact ⟨rfl, rfl, rfl, rfl, rfl, rfl, trivial⟩) kk
  refine jx_iconst (v := -1) dX11_crowdedBut_0 (by decide) ?_
  refine jx_istore_n dX11_crowdedBut_1 rfl (by decide) ?_
  refine jx_iconst (v := 0) dX11_crowdedBut_2 (by decide) ?_
  refine jx_istore dX11_crowdedBut_3 (by decide) ?_
  have kk := key 0 (by omega)
  rw [show fnd (gI I W day left 0) 96 = none from fnd_none.mpr (fun _ _ => rfl)] at kk
  exact jx_ls (by exact ⟨rfl, rfl, rfl, rfl, rfl, trivial⟩) kk
set_option maxHeartbeats 1000000 in
set_option maxRecDepth 20000 in
theorem tX11_crowdedF (hW : jWok w l) (hR : RS R) {W H np len : Nat} (hI : RI I W H np len) (day : Int32) (hbad : ¬ (dayQ day = true)) : jCD w l mX11_crowded 3 [.ref 1069, .int day] (n, shE, I, L, R) (some (.int 0)) (n, shE, upI I 1069 2 1, L, R) := by
  refine jCD_of hW (by decide) rfl (Nat.le_of_ble_eq_true rfl) ?_
  have hI0 := hI.kp (k0 I)
  refine jx_aload_n dX11_crowded_0 rfl ?_
  refine jx_iconst (v := 0) dX11_crowded_1 (by decide) ?_
  refine jx_putI dX11_crowded_2 flX11_187 rfl rfl (fun r h => by cases h; rfl) ?_
  refine jx_iload_n dX11_crowded_5 rfl ?_
  refine jx_Si (as := [.int _]) dX11_crowded_6 mlX11_438 okX11_isDay stX11_isDay rfl rfl (by decide) (Nat.le_of_ble_eq_true rfl) (tX11_isDay hW _) ?_
  refine jx_ifB_eq 21 dX11_crowded_9 (by decide) (fun h9 => ?_) (fun h9 => ?_)
  · refine jx_aload_n dX11_crowded_21 rfl ?_
    refine jx_iconst (v := 1) dX11_crowded_22 (by decide) ?_
    refine jx_Vi (as := [.int _]) dX11_crowded_23 mlX11_351 okX11_fail viX11_fail rfl rfl rfl rfl rfl (by decide) (Nat.le_of_ble_eq_true rfl) (tX11_fail hW _) ?_
    refine jx_iret dX11_crowded_26 rfl ?_
    exact ⟨rfl, by rw [up_up]⟩
  · exact absurd h9 hbad
set_option maxHeartbeats 1000000 in
set_option maxRecDepth 20000 in
theorem tX11_crowded (hW : jWok w l) (hR : RS R) {W H np len : Nat} (hI : RI I W H np len) {b : Nat} (hB : RK I W H np b) {day : Nat} (hd : day ≤ 40) : jRi w l mX11_crowded 6 [.ref 1069, .int (nI day)] (n, shE, I, L, R) (fun r t => r = oI (crw I W b day 0) ∧ ∃ J, t = (n, shE, J, L, R) ∧ eqs (upI I 1069 2 0) J) := by
  refine jRi_of hW (by decide) rfl (Nat.le_of_ble_eq_true rfl) ?_
  have hI0 := hI.kp (k0 I)
  have hT := hI0.1.1
  have hz := hT.wh
  have hw3 := hT.2.2.1
  have hw9 := hT.2.2.2.1
  have hh1 := hT.2.2.2.2.1
  have hh7 := hT.2.2.2.2.2
  have hnp := hI0.2.2.2.2.1.2
  refine jx_aload_n dX11_crowded_0 rfl ?_
  refine jx_iconst (v := 0) dX11_crowded_1 (by decide) ?_
  refine jx_putI dX11_crowded_2 flX11_187 rfl rfl (fun r h => by cases h; rfl) ?_
  refine jx_iload_n dX11_crowded_5 rfl ?_
  refine jx_Si (as := [.int _]) dX11_crowded_6 mlX11_438 okX11_isDay stX11_isDay rfl rfl (by decide) (Nat.le_of_ble_eq_true rfl) (tX11_isDayT hW hd) ?_
  refine jx_ifB_eq 21 dX11_crowded_9 (by decide) (fun h9 => by cases h9) (fun h9 => ?_)
  refine jx_aload_n dX11_crowded_12 rfl ?_
  refine jx_iload_n dX11_crowded_13 rfl ?_
  refine jx_iconst (v := 0) dX11_crowded_14 (by decide) ?_
  refine jx_Vi (as := [.int _, .int _]) dX11_crowded_15 mlX11_479 okX11_crowdedBut viX11_crowdedBut rfl rfl rfl rfl rfl (by decide) (Nat.le_of_ble_eq_true rfl) (tX11_crowdedBut (left := 0) hW hR hI0 (hB.c 0) hd (by omega)) ?_
  refine jx_goto 26 dX11_crowded_18 (by decide) ?_
  refine jx_iret dX11_crowded_26 rfl ?_
  refine ⟨_, rfl, ?_, _, rfl, eqs_r _⟩
  exact congrArg oI (crw_c I W b day 0 0)
set_option maxHeartbeats 1000000 in
set_option maxRecDepth 20000 in
theorem tX11_bitsOf (hW : jWok w l) {a : Nat} (ha : a < 64) (σ : jHS) : jCD w l mX11_bitsOf 1 [.int (nI a)] σ (some (.int (nI (pc6 a)))) σ := by
  refine jCD_of hW (by decide) rfl (Nat.le_of_ble_eq_true rfl) ?_
  have key : ∀ v k, v < 64 → k + pc6 v = pc6 a → jWP w l mX11_bitsOf 1 0 0 (fun r t => r = some (.int (nI (pc6 a))) ∧ t = σ) (fun _ _ => False) 4 [(0, .int (nI a)), (1, .int (nI k)), (2, .int (nI v))] [] σ := by
    intro v
    induction v using Nat.strongRecOn with
    | _ v ih =>
      intro k hv hk
      refine jx_iload_n dX11_bitsOf_4 rfl ?_
      refine jx_ifN_eq (a := v) 20 dX11_bitsOf_5 (by decide) (by omega) (fun h5 => ?_) (fun h5 => ?_)
      · refine jx_iload_n dX11_bitsOf_20 rfl ?_
        refine jx_iret dX11_bitsOf_21 rfl ?_
        refine ⟨?_, rfl⟩
        subst h5
        rw [show k = pc6 a from hk]
      · refine jx_iinc dX11_bitsOf_8 rfl (v := nI (k + 1)) (nI_1 _) (by decide) ?_
        refine jx_iload_n dX11_bitsOf_11 rfl ?_
        refine jx_iload_n dX11_bitsOf_12 rfl ?_
        refine jx_iconst (v := 1) dX11_bitsOf_13 (by decide) ?_
        refine jx_isub dX11_bitsOf_14 ?_
        refine jx_iandE (z := nI (v &&& (v - 1))) dX11_bitsOf_15 ((bits_all ⟨v, hv⟩ h5).1) ?_
        refine jx_istore_n dX11_bitsOf_16 rfl (by decide) ?_
        refine jx_goto 4 dX11_bitsOf_17 (by decide) ?_
        have hb := bits_all ⟨v, hv⟩ h5
        simp only at hb
        exact jx_ls (by exact ⟨rfl, rfl, rfl, trivial⟩) (ih (v &&& (v - 1)) hb.2.1 (k + 1) (by omega) (by omega))
  refine jx_iconst (v := 0) dX11_bitsOf_0 (by decide) ?_
  refine jx_istore_n dX11_bitsOf_1 rfl (by decide) ?_
  refine jx_iload_n dX11_bitsOf_2 rfl ?_
  refine jx_istore_n dX11_bitsOf_3 rfl (by decide) ?_
  exact jx_ls (by exact ⟨rfl, rfl, rfl, trivial⟩) (key a 0 ha (by omega))
end RL
