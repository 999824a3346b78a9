/-! a case of the law: the class's answer by its wrapper, then the reference's -/
section CS
variable {w : jWD} {l : Launch} {n : Nat} {I J K : Nat → Nat → Int32} {L M : Nat → Nat → Int64} {R : Nat → Nat → Option Nat} {h g W H np len b s tn : Nat} {tp : Nat → Nat} {N X : jMI} {as : List Value} {dL dX : Nat}
def jCas (w : jWD) (l : Launch) (N X : jMI) (as : List Value) (f : Int32 → Int64) (n : Nat) (I : Nat → Nat → Int32) (L : Nat → Nat → Int64) (R : Nat → Nat → Option Nat) : Prop :=
  ∃ dL dX c, dL ≤ 50 ∧ dX ≤ 50 ∧ jCt w l N dL 1 6 (.ref 1000 :: (as ++ [.ref 1118])) (n, shE, I, L, R) (fun v t => v = some (.int c) ∧ ∃ n' J M R', n ≤ n' ∧ t = (n', shE, J, M, R') ∧ jRi w l X dX (.ref 1069 :: as) (n', shE, J, M, R') (fun r t => ∃ K, t = (n', shE, K, M, R') ∧ K 1069 2 = c ∧ (c = 0 → M 1118 0 = f r) ∧ INV K M R')) (fun _ _ => False)
def jCasL (w : jWD) (l : Launch) (N X : jMI) (as : List Value) (n : Nat) (I : Nat → Nat → Int32) (L : Nat → Nat → Int64) (R : Nat → Nat → Option Nat) : Prop :=
  ∃ dL dX c, dL ≤ 50 ∧ dX ≤ 50 ∧ jCt w l N dL 1 6 (.ref 1000 :: (as ++ [.ref 1118])) (n, shE, I, L, R) (fun v t => v = some (.int c) ∧ ∃ n' J M R', n ≤ n' ∧ t = (n', shE, J, M, R') ∧ jRl w l X dX (.ref 1069 :: as) (n', shE, J, M, R') (fun r t => ∃ K, t = (n', shE, K, M, R') ∧ K 1069 2 = c ∧ (c = 0 → M 1118 0 = r) ∧ INV K M R')) (fun _ _ => False)
theorem jRl_m {w : jWD} {l : Launch} {M : jMI} {d : Nat} {as : List Value} {σ : jHS} {Q Q' : Int64 → jHS → Prop} (h : jRl w l M d as σ Q) (hn : ∀ r t, Q r t → Q' r t) : jRl w l M d as σ Q' := jCt_m h (fun v t q => by obtain ⟨r, e, q⟩ := q; exact ⟨r, e, hn _ _ q⟩)
theorem hR_e (e : ∀ a j, hRd a j = true → K a j = I a j) : hR K = hR I := by
  funext a j
  show cond (hRd a j) (K a j) 0 = cond (hRd a j) (I a j) 0
  cases q : hRd a j with
  | false => rfl
  | true => exact e a j q
theorem hRd_s {a j : Nat} (h : hRd a j = true) : 1069 ≤ a ∧ scr a j = false ∧ ¬ (a = 1069 ∧ j = 2) := by
  unfold hRd at h
  rw [Bool.and_eq_true, Bool.and_eq_true] at h
  refine ⟨Nat.ble_eq.mp h.1, by simpa using h.2.1, ?_⟩
  rintro ⟨rfl, rfl⟩
  simp at h
theorem hR_D (e : eqD I J) : hR J = hR I := hR_e (fun a j q => e a j (by
  have h1 := (hRd_s q).1
  simp [scD, scI]; omega))
theorem hR_S {c : Int32} (e : eqs (upI J 1069 2 c) K) : hR K = hR J := hR_e (fun a j q => (e a j (hRd_s q).2.1).trans (upI_ne (hRd_s q).2.2))
theorem qk_D {a j : Nat} (q : qk a j) : scD a j = false := by
  unfold qk at q
  simp [scD, scI]; omega
theorem qk_s {a j : Nat} (q : qk a j) : scr a j = false ∧ ¬ (a = 1069 ∧ j = 2) := by
  unfold qk at q
  refine ⟨?_, by omega⟩
  simp [scr]; omega
theorem IV_D (hv : IV I L R h g W H np len b s tn tp) (e : eqD I J) (hX : CX J M R h (hR I) W H np len) (v : Int64) : IV J (upL M 1118 0 v) R h g W H np len b s tn tp := by
  refine IV_f hv ?_ (fun a j q => e a j (qk_D q))
  rw [hR_D e]
  exact CX_o hX (fun _ _ _ _ => rfl) (fun b j h1 h2 => upL_nea (by omega))
theorem IV_S {c : Int32} (hv : IV J M R h g W H np len b s tn tp) (e : eqs (upI J 1069 2 c) K) : IV K M R h g W H np len b s tn tp := by
  have ee : ∀ a j, qk a j → K a j = J a j := fun a j q => (e a j (qk_s q).1).trans (upI_ne (qk_s q).2)
  refine IV_f hv ?_ ee
  rw [hR_S e]
  refine CX_o hv.cx (fun a j h1 h2 => ?_) (fun _ _ _ _ => rfl)
  exact (e a j (by simp [scr]; omega)).trans (upI_nea (by omega))
theorem IV_2 (hv : IV I L R h g W H np len b s tn tp) (c : Int32) : IV (upI I 1069 2 c) L R h g W H np len b s tn tp := IV_S hv (eqs_r _)
theorem code_S {c : Int32} (e : eqs (upI J 1069 2 c) K) : K 1069 2 = c := (e 1069 2 rfl).trans upI_s
theorem case_Q {f : Int32 → Int64} {a : Int32} {F : (Nat → Nat → Int32) → Int32} (hv : IV I L R h g W H np len b s tn tp) (hL : dL ≤ 50) (hX5 : dX ≤ 50)
    (hG : jGo w l N dL (.ref 1000 :: (as ++ [.ref 1118])) (n, shE, I, L, R) (fun v n' J M' R' => ∃ r, v = f r ∧ (r = a ∧ ∃ J2 M2, ((n', shE, J, M', R') : jHS) = (n, shE, J2, M2, R) ∧ eqD I J2 ∧ eqDL L M2 ∧ CX J2 M2 R h (hR I) W H np len)))
    (hX : ∀ J M', hR J = hR I → IV J M' R h g W H np len b s tn tp → jRi w l X dX (.ref 1069 :: as) (n, shE, J, M', R) (fun r t => r = F J ∧ ∃ K, t = (n, shE, K, M', R) ∧ eqs (upI J 1069 2 0) K)) (hF : ∀ J, hR J = hR I → F J = a) : jCas w l N X as f n I L R := by
  refine ⟨dL, dX, 0, hL, hX5, jCt_m hG ?_⟩
  rintro v t ⟨rfl, r, n', J, M', R', ⟨r', rfl, rfl, J2, M2, e, e1, e2, e3⟩, rfl⟩
  cases e
  refine ⟨rfl, n, J, _, R, Nat.le_refl _, rfl, ?_⟩
  have iv := IV_D hv e1 e3 (f r')
  refine jRi_m (hX J _ (hR_D e1) iv) ?_
  rintro r t ⟨rfl, K, rfl, ek⟩
  refine ⟨K, rfl, code_S ek, fun _ => ?_, ⟨h, g, W, H, np, len, b, s, tn, tp, IV_S iv ek⟩⟩
  rw [upL_same, hF J (hR_D e1)]
theorem case_QL {a : Int64} {F : (Nat → Nat → Int32) → Int64} (hv : IV I L R h g W H np len b s tn tp) (hL : dL ≤ 50) (hX5 : dX ≤ 50)
    (hG : jGo w l N dL (.ref 1000 :: (as ++ [.ref 1118])) (n, shE, I, L, R) (fun v n' J M' R' => ∃ r, v = r ∧ (r = a ∧ ∃ J2 M2, ((n', shE, J, M', R') : jHS) = (n, shE, J2, M2, R) ∧ eqD I J2 ∧ eqDL L M2 ∧ CX J2 M2 R h (hR I) W H np len)))
    (hX : ∀ J M', hR J = hR I → IV J M' R h g W H np len b s tn tp → jRl w l X dX (.ref 1069 :: as) (n, shE, J, M', R) (fun r t => r = F J ∧ ∃ K, t = (n, shE, K, M', R) ∧ eqs (upI J 1069 2 0) K)) (hF : ∀ J, hR J = hR I → F J = a) : jCasL w l N X as n I L R := by
  refine ⟨dL, dX, 0, hL, hX5, jCt_m hG ?_⟩
  rintro v t ⟨rfl, r, n', J, M', R', ⟨r', rfl, rfl, J2, M2, e, e1, e2, e3⟩, rfl⟩
  cases e
  refine ⟨rfl, n, J, _, R, Nat.le_refl _, rfl, ?_⟩
  have iv := IV_D hv e1 e3 r
  refine jRl_m (hX J _ (hR_D e1) iv) ?_
  rintro r2 t ⟨rfl, K, rfl, ek⟩
  refine ⟨K, rfl, code_S ek, fun _ => ?_, ⟨h, g, W, H, np, len, b, s, tn, tp, IV_S iv ek⟩⟩
  rw [upL_same, hF J (hR_D e1)]
theorem case_B {f : Int32 → Int64} {c z : Int32} (hv : IV I L R h g W H np len b s tn tp) (hL : dL ≤ 50) (hX5 : dX ≤ 50) (hc : c ≠ 0) (hB : jBa w l N dL (.ref 1000 :: (as ++ [.ref 1118])) n I L R c)
    (hX : ∀ n', jCD w l X dX (.ref 1069 :: as) (n', shE, I, L, R) (some (.int z)) (n', shE, upI I 1069 2 c, L, R)) : jCas w l N X as f n I L R := by
  refine ⟨dL, dX, c, hL, hX5, jCt_m hB ?_⟩
  rintro v t ⟨rfl, n', hn, rfl⟩
  refine ⟨rfl, n', I, L, R, hn, rfl, jCt_m (hX n') ?_⟩
  rintro v t ⟨rfl, rfl⟩
  exact ⟨z, rfl, _, rfl, upI_s, fun q => absurd q hc, ⟨h, g, W, H, np, len, b, s, tn, tp, IV_2 hv c⟩⟩
theorem case_BL {c : Int32} {z : Int64} (hv : IV I L R h g W H np len b s tn tp) (hL : dL ≤ 50) (hX5 : dX ≤ 50) (hc : c ≠ 0) (hB : jBa w l N dL (.ref 1000 :: (as ++ [.ref 1118])) n I L R c)
    (hX : ∀ n', jCD w l X dX (.ref 1069 :: as) (n', shE, I, L, R) (some (.long z)) (n', shE, upI I 1069 2 c, L, R)) : jCasL w l N X as n I L R := by
  refine ⟨dL, dX, c, hL, hX5, jCt_m hB ?_⟩
  rintro v t ⟨rfl, n', hn, rfl⟩
  refine ⟨rfl, n', I, L, R, hn, rfl, jCt_m (hX n') ?_⟩
  rintro v t ⟨rfl, rfl⟩
  exact ⟨z, rfl, _, rfl, upI_s, fun q => absurd q hc, ⟨h, g, W, H, np, len, b, s, tn, tp, IV_2 hv c⟩⟩
theorem jQ_D {T : Nat → Nat → Int32} {v : Int32} {d : Nat} (hq : jQ w l N d as n I L R h T W H np len v) : jQD w l N d as n I L R h T W H np len v := jRi_m hq (by
  rintro r t ⟨rfl, J, M', rfl, e1, e2, e3⟩
  exact ⟨rfl, J, M', rfl, eqC_D e1, eqCL_D e2, e3⟩)
theorem jCD_D {v : Int32} {d : Nat} (hX : CX I L R h (hR I) W H np len) (hq : jCD w l N d as (n, shE, I, L, R) (some (.int v)) (n, shE, I, L, R)) : jQD w l N d as n I L R h (hR I) W H np len v := jCt_m hq (by
  rintro r t ⟨rfl, rfl⟩
  exact ⟨v, rfl, rfl, I, L, rfl, fun _ _ _ => rfl, fun _ _ _ => rfl, hX⟩)
theorem jCD_L {v : Int64} {d : Nat} (hX : CX I L R h (hR I) W H np len) (hq : jCD w l N d as (n, shE, I, L, R) (some (.long v)) (n, shE, I, L, R)) : jRl w l N d as (n, shE, I, L, R) (fun r t => r = v ∧ ∃ J M', t = (n, shE, J, M', R) ∧ eqD I J ∧ eqDL L M' ∧ CX J M' R h (hR I) W H np len) := jCt_m hq (by
  rintro r t ⟨rfl, rfl⟩
  exact ⟨v, rfl, rfl, I, L, rfl, fun _ _ _ => rfl, fun _ _ _ => rfl, hX⟩)
theorem jCD_s {v : Int32} {d : Nat} (h : jCD w l X d as (n, shE, I, L, R) (some (.int v)) (n, shE, upI I 1069 2 0, L, R)) : jRi w l X d as (n, shE, I, L, R) (fun r t => r = v ∧ ∃ K, t = (n, shE, K, L, R) ∧ eqs (upI I 1069 2 0) K) := jCt_m h (by
  rintro r t ⟨rfl, rfl⟩
  exact ⟨v, rfl, rfl, _, rfl, eqs_r _⟩)
theorem jQD_q {T : Nat → Nat → Int32} {v : Int32} : ∀ r t, (r = v ∧ ∃ J M', t = ((n, shE, J, M', R) : jHS) ∧ eqD I J ∧ eqDL L M' ∧ CX J M' R h T W H np len) → ∃ n' J M' R', t = ((n', shE, J, M', R') : jHS) := by
  rintro r t ⟨_, J, M', rfl, _⟩
  exact ⟨n, J, M', R, rfl⟩
theorem jQD_l {T : Nat → Nat → Int32} {v : Int64} : ∀ r t, (r = v ∧ ∃ J M', t = ((n, shE, J, M', R) : jHS) ∧ eqD I J ∧ eqDL L M' ∧ CX J M' R h T W H np len) → ∃ n' J M' R', t = ((n', shE, J, M', R') : jHS) := by
  rintro r t ⟨_, J, M', rfl, _⟩
  exact ⟨n, J, M', R, rfl⟩
theorem kn_of {k : Int32} {c : Nat} (hh : 0 ≤ k.toInt ∧ k.toInt ≤ (c : Int)) : ∃ j, j ≤ c ∧ k = nI j := ⟨cN k, by have e : (cN k : Int) = k.toInt := Int.toNat_of_nonneg (by omega); omega, nI_cN (by omega)⟩
theorem hR_b {a : Nat} (h1 : 1094 ≤ a) (h2 : a ≤ 1098) (j : Nat) : hR J a j = J a j := hR_at J (by
  have e : scr a j = false := by simp [scr]; omega
  have e2 : Nat.ble 1069 a = true := Nat.ble_eq.mpr (by omega)
  have e3 : Nat.beq a 1069 = false := Bool.eq_false_iff.mpr (fun q => by have := Nat.eq_of_beq_eq_true q; omega)
  show (Nat.ble 1069 a && (!(scr a j) && !(Nat.beq a 1069 && Nat.beq j 2))) = true
  rw [e, e2, e3]; rfl)
end CS
