/-! array rows with the place as a plain number -/
section JA
variable {w : jWD} {l : Launch} {M : jMI} {d kc ks : Nat} {Qn : Option Value → jHS → Prop} {Qx : String → jHS → Prop} {pc : Nat} {ls : List (Nat × Value)} {st : List Value}
variable {n : Nat} {sh : Nat → Nat × Nat} {I : Nat → Nat → Int32} {L : Nat → Nat → Int64} {R : Nat → Nat → Option Nat}
theorem jin {n0 k : Nat} {j : Int32} (hk : j = nI k) (hlt : k < n0) (hn : n0 < 65536) : vp_in j n0 ∧ j.toNatClampNeg = k := by
  subst hk
  exact ⟨vp_in_nI hlt (by omega), nI_clamp (by omega)⟩
theorem jx_ialdN {a n0 : Nat} {j : Int32} (k : Nat) (hd : decode M.2.1 pc = .ok (.iaload, 1)) (hs : sh a = (1, n0)) (hk : j = nI k) (hlt : k < n0) (hn : n0 < 65536) (kk : jWP w l M d kc ks Qn Qx (pc + 1) ls (.int (I a k) :: st) (n, sh, I, L, R)) : jWP w l M d kc ks Qn Qx pc ls (.int j :: .ref a :: st) (n, sh, I, L, R) := by
  obtain ⟨h1, h2⟩ := jin hk hlt hn
  refine jx_iald hd hs h1 ?_
  rw [h2]
  exact kk
theorem jx_baldN {a n0 : Nat} {j : Int32} (k : Nat) (hd : decode M.2.1 pc = .ok (.baload, 1)) (hs : sh a = (2, n0)) (hk : j = nI k) (hlt : k < n0) (hn : n0 < 65536) (kk : jWP w l M d kc ks Qn Qx (pc + 1) ls (.int (I a k) :: st) (n, sh, I, L, R)) : jWP w l M d kc ks Qn Qx pc ls (.int j :: .ref a :: st) (n, sh, I, L, R) := by
  obtain ⟨h1, h2⟩ := jin hk hlt hn
  refine jx_bald hd hs h1 ?_
  rw [h2]
  exact kk
theorem jx_zaldN {a n0 : Nat} {j : Int32} (k : Nat) (hd : decode M.2.1 pc = .ok (.baload, 1)) (hs : sh a = (3, n0)) (hk : j = nI k) (hlt : k < n0) (hn : n0 < 65536) (kk : jWP w l M d kc ks Qn Qx (pc + 1) ls (.int (I a k) :: st) (n, sh, I, L, R)) : jWP w l M d kc ks Qn Qx pc ls (.int j :: .ref a :: st) (n, sh, I, L, R) := by
  obtain ⟨h1, h2⟩ := jin hk hlt hn
  refine jx_zald hd hs h1 ?_
  rw [h2]
  exact kk
theorem jx_laldN {a n0 : Nat} {j : Int32} (k : Nat) (hd : decode M.2.1 pc = .ok (.laload, 1)) (hs : sh a = (4, n0)) (hk : j = nI k) (hlt : k < n0) (hn : n0 < 65536) (kk : jWP w l M d kc ks Qn Qx (pc + 1) ls (.long (L a k) :: st) (n, sh, I, L, R)) : jWP w l M d kc ks Qn Qx pc ls (.int j :: .ref a :: st) (n, sh, I, L, R) := by
  obtain ⟨h1, h2⟩ := jin hk hlt hn
  refine jx_lald hd hs h1 ?_
  rw [h2]
  exact kk
theorem jx_aald5N {a n0 x : Nat} {j : Int32} (k : Nat) (hd : decode M.2.1 pc = .ok (.aaload, 1)) (hs : sh a = (5, n0)) (hk : j = nI k) (hlt : k < n0) (hn : n0 < 65536) (hr : R a k = some x) (kk : jWP w l M d kc ks Qn Qx (pc + 1) ls (.ref x :: st) (n, sh, I, L, R)) : jWP w l M d kc ks Qn Qx pc ls (.int j :: .ref a :: st) (n, sh, I, L, R) := by
  obtain ⟨h1, h2⟩ := jin hk hlt hn
  exact jx_aald5 hd hs h1 (by rw [h2]; exact hr) kk
theorem jx_aald6N {a n0 x : Nat} {j : Int32} (k : Nat) (hd : decode M.2.1 pc = .ok (.aaload, 1)) (hs : sh a = (6, n0)) (hk : j = nI k) (hlt : k < n0) (hn : n0 < 65536) (hr : R a k = some x) (kk : jWP w l M d kc ks Qn Qx (pc + 1) ls (.ref x :: st) (n, sh, I, L, R)) : jWP w l M d kc ks Qn Qx pc ls (.int j :: .ref a :: st) (n, sh, I, L, R) := by
  obtain ⟨h1, h2⟩ := jin hk hlt hn
  exact jx_aald6 hd hs h1 (by rw [h2]; exact hr) kk
theorem jx_iastN {a n0 : Nat} {j : Int32} {x : Int32} (k : Nat) (hd : decode M.2.1 pc = .ok (.iastore, 1)) (hs : sh a = (1, n0)) (hk : j = nI k) (hlt : k < n0) (hn : n0 < 65536) (kk : jWP w l M d kc ks Qn Qx (pc + 1) ls st (n, sh, upI I a k x, L, R)) : jWP w l M d kc ks Qn Qx pc ls (.int x :: .int j :: .ref a :: st) (n, sh, I, L, R) := by
  obtain ⟨h1, h2⟩ := jin hk hlt hn
  refine jx_iast hd hs h1 ?_
  rw [h2]
  exact kk
theorem jx_bastN {a n0 : Nat} {j : Int32} {x : Int32} (k : Nat) (hd : decode M.2.1 pc = .ok (.bastore, 1)) (hs : sh a = (2, n0)) (hk : j = nI k) (hlt : k < n0) (hn : n0 < 65536) (kk : jWP w l M d kc ks Qn Qx (pc + 1) ls st (n, sh, upI I a k (x.toInt8.toInt32), L, R)) : jWP w l M d kc ks Qn Qx pc ls (.int x :: .int j :: .ref a :: st) (n, sh, I, L, R) := by
  obtain ⟨h1, h2⟩ := jin hk hlt hn
  refine jx_bast hd hs h1 ?_
  rw [h2]
  exact kk
theorem jx_zastN {a n0 : Nat} {j : Int32} {x : Int32} (k : Nat) (hd : decode M.2.1 pc = .ok (.bastore, 1)) (hs : sh a = (3, n0)) (hk : j = nI k) (hlt : k < n0) (hn : n0 < 65536) (kk : jWP w l M d kc ks Qn Qx (pc + 1) ls st (n, sh, upI I a k (x &&& 1), L, R)) : jWP w l M d kc ks Qn Qx pc ls (.int x :: .int j :: .ref a :: st) (n, sh, I, L, R) := by
  obtain ⟨h1, h2⟩ := jin hk hlt hn
  refine jx_zast hd hs h1 ?_
  rw [h2]
  exact kk
theorem jx_lastN {a n0 : Nat} {j : Int32} {x : Int64} (k : Nat) (hd : decode M.2.1 pc = .ok (.lastore, 1)) (hs : sh a = (4, n0)) (hk : j = nI k) (hlt : k < n0) (hn : n0 < 65536) (kk : jWP w l M d kc ks Qn Qx (pc + 1) ls st (n, sh, I, upL L a k x, R)) : jWP w l M d kc ks Qn Qx pc ls (.long x :: .int j :: .ref a :: st) (n, sh, I, L, R) := by
  obtain ⟨h1, h2⟩ := jin hk hlt hn
  refine jx_last hd hs h1 ?_
  rw [h2]
  exact kk
theorem upI_same (I : Nat → Nat → Int32) (a k : Nat) (v : Int32) : upI I a k v a k = v := by simp [upI]
theorem upI_ne {I : Nat → Nat → Int32} {a k b j : Nat} {v : Int32} (h : ¬ (b = a ∧ j = k)) : upI I a k v b j = I b j := by simp [upI, h]
theorem upI_nea {I : Nat → Nat → Int32} {a k b j : Nat} {v : Int32} (h : b ≠ a) : upI I a k v b j = I b j := by simp [upI, h]
theorem upI_nek {I : Nat → Nat → Int32} {a k b j : Nat} {v : Int32} (h : j ≠ k) : upI I a k v b j = I b j := by simp [upI, h]
theorem upI_self (I : Nat → Nat → Int32) (a k : Nat) : upI I a k (I a k) = I := by
  funext b j
  by_cases h : b = a ∧ j = k
  · rw [h.1, h.2, upI_same]
  · rw [upI_ne h]
theorem upI_twice (I : Nat → Nat → Int32) (a k : Nat) (u v : Int32) : upI (upI I a k u) a k v = upI I a k v := by
  funext b j
  by_cases h : b = a ∧ j = k
  · rw [h.1, h.2, upI_same, upI_same]
  · rw [upI_ne h, upI_ne h, upI_ne h]
theorem upL_same (L : Nat → Nat → Int64) (a k : Nat) (v : Int64) : upL L a k v a k = v := by simp [upL]
theorem upL_ne {L : Nat → Nat → Int64} {a k b j : Nat} {v : Int64} (h : ¬ (b = a ∧ j = k)) : upL L a k v b j = L b j := by simp [upL, h]
theorem upL_nea {L : Nat → Nat → Int64} {a k b j : Nat} {v : Int64} (h : b ≠ a) : upL L a k v b j = L b j := by simp [upL, h]
def jb (b : Bool) : Int32 := if b then 1 else 0
theorem jb_or (b : Bool) : jb b = 0 ∨ jb b = 1 := by cases b <;> simp [jb]
theorem jb_t {b : Bool} (h : b = true) : (1 : Int32) = jb b := by rw [h]; rfl
theorem jb_f {b : Bool} (h : b = false) : (0 : Int32) = jb b := by rw [h]; rfl
theorem jb_0 {b : Bool} : jb b = 0 ↔ b = false := by cases b <;> simp [jb]
theorem jb_n0 {b : Bool} : ¬ jb b = 0 ↔ b = true := by cases b <;> simp [jb]
theorem jb_1 {b : Bool} : jb b = 1 ↔ b = true := by cases b <;> simp [jb]
theorem jb_and1 (b : Bool) : jb b &&& 1 = jb b := by cases b <;> decide
end JA
