/-! THE REFERENCE: the way -/
theorem oI_m {q : Option Nat} (h : ∀ a, q = some a → a < 2 ^ 31) : oI q = -1 ↔ q = none := by
  cases q with
  | none => exact ⟨fun _ => rfl, fun _ => rfl⟩
  | some a =>
    refine ⟨fun e => ?_, fun e => by cases e⟩
    have e2 := congrArg Int32.toInt (show nI a = -1 from e)
    rw [nI_toInt (h a rfl), show (-1 : Int32).toInt = -1 from by decide] at e2
    omega
section RH
variable {w : jWD} {l : Launch} {n : Nat} {I J : Nat → Nat → Int32} {L : Nat → Nat → Int64} {R : Nat → Nat → Option Nat}

set_option maxHeartbeats 1000000 in
set_option maxRecDepth 20000 in
theorem tX11_tellWay (hW : jWok w l) (hR : RS R) {W H pace : Nat} (hT : MT I W H) {m : Nat → Nat → Bool} (hs : TS I W H pace m) (hp1 : 1 ≤ pace) (hp7 : pace ≤ 7) {p r tick goal : Nat} (hp : p < 12) (hr : I 1079 p = nI r) (hrH : r < H) (ht : tick < 96) (hg : sn W H pace m (W * r) tick = goal) (hgn : goal ≠ 1000) : jCD w l mX11_tellWay 3 [.ref 1069, .int (nI p), .int (nI tick)] (n, shE, I, L, R) (some (.int (nI (goal - tick + 1)))) (n, shE, fl I 1093 (fun i => nI (wW W H pace m (sn W H pace m) goal tick (W * r) i).1) (goal - tick + 1), L, R) := by
  refine jCD_of hW (by decide) rfl (Nat.le_of_ble_eq_true rfl) ?_
  have hz := hT.wh
  have hw3 := hT.2.2.1
  have hw9 := hT.2.2.2.1
  have hh1 := hT.2.2.2.2.1
  have hh7 := hT.2.2.2.2.2
  have hwr : W * r < W * H := Nat.mul_lt_mul_of_pos_left hrH (by omega)
  obtain ⟨hpc, hm, hsn⟩ := hs
  have hgl : goal < 96 := by rw [← hg]; exact sn_last hp1 _ _ _ ht rfl (by rw [hg]; exact hgn)
  have hgt0 : tick ≤ goal := by rw [← hg]; exact sn_ge hp1 _ _ _ ht rfl
  have key : ∀ z k t c, goal - t = z → t = tick + k → t ≤ goal → c < W * H → sn W H pace m c t = goal → (wW W H pace m (sn W H pace m) goal tick (W * r) k).1 = c → (wW W H pace m (sn W H pace m) goal tick (W * r) k).2 ≤ t → jWP w l mX11_tellWay 3 0 0 (fun r_1 t => r_1 = some (.int (nI (goal - tick + 1))) ∧ t = (n, shE, fl I 1093 (fun i => nI (wW W H pace m (sn W H pace m) goal tick (W * r) i).1) (goal - tick + 1), L, R)) (fun _ _ => False) 30 [(0, .ref 1069), (1, .int (nI p)), (2, .int (nI tick)), (3, .int (nI c)), (4, .int (nI t)), (5, .int (nI goal))] [] (n, shE, fl I 1093 (fun i => nI (wW W H pace m (sn W H pace m) goal tick (W * r) i).1) (k + 1), L, R) := by
    intro z
    induction z using Nat.strongRecOn with
    | _ z ih =>
      intro k t c hz1 htk htg hc hsc hw1 hw2
      have hJT : MT (fl I 1093 (fun i => nI (wW W H pace m (sn W H pace m) goal tick (W * r) i).1) (k + 1)) W H := hT.of (funext fun j => fl_ne (by decide))
      have hJp : fl I 1093 (fun i => nI (wW W H pace m (sn W H pace m) goal tick (W * r) i).1) (k + 1) 1069 35 = nI pace := (fl_ne (by decide)).trans hpc
      have hJm : ∀ q j, q < W * H → j < 96 → fl I 1093 (fun i => nI (wW W H pace m (sn W H pace m) goal tick (W * r) i).1) (k + 1) 1090 (96 * q + j) = jb (m q j) := fun q j h1 h2 => (fl_ne (by decide)).trans (hm q j h1 h2)
      have hJs : ∀ q j, q < W * H → j < 96 → fl I 1093 (fun i => nI (wW W H pace m (sn W H pace m) goal tick (W * r) i).1) (k + 1) 1091 (96 * q + j) = nI (sn W H pace m q j) := fun q j h1 h2 => (fl_ne (by decide)).trans (hsn q j h1 h2)
      have key164 : t < goal → jWP w l mX11_tellWay 3 0 0 (fun r_1 t => r_1 = some (.int (nI (goal - tick + 1))) ∧ t = (n, shE, fl I 1093 (fun i => nI (wW W H pace m (sn W H pace m) goal tick (W * r) i).1) (goal - tick + 1), L, R)) (fun _ _ => False) 164 [(0, .ref 1069), (1, .int (nI p)), (2, .int (nI tick)), (3, .int (nI c)), (4, .int (nI t)), (5, .int (nI goal)), (6, .int (oI (nxU W H pace m (sn W H pace m) c t goal 4)))] [] (n, shE, fl I 1093 (fun i => nI (wW W H pace m (sn W H pace m) goal tick (W * r) i).1) (k + 1), L, R) := by
        intro hlt
        have hni : ¬ c % W = W - 1 := fun e => by rw [sn_isle hp1 (by omega) e] at hsc; omega
        obtain ⟨q, hq⟩ := nx_some (W := W) (H := H) (pace := pace) (m := m) (s := sn W H pace m) (c := c) (t := t) hgn 4 (by rw [sn_eq hp1 (by omega)] at hsc; unfold sOne at hsc; rw [if_neg hni] at hsc; exact hsc)
        obtain ⟨hqH, hqp⟩ := nx_prop (W := W) (H := H) (pace := pace) (m := m) hw3 hh1 hc 4 q hq
        rw [hq]
        show jWP w l mX11_tellWay 3 0 0 (fun r_1 t => r_1 = some (.int (nI (goal - tick + 1))) ∧ t = (n, shE, fl I 1093 (fun i => nI (wW W H pace m (sn W H pace m) goal tick (W * r) i).1) (goal - tick + 1), L, R)) (fun _ _ => False) 164 [(0, .ref 1069), (1, .int (nI p)), (2, .int (nI tick)), (3, .int (nI c)), (4, .int (nI t)), (5, .int (nI goal)), (6, .int (nI q))] [] (n, shE, fl I 1093 (fun i => nI (wW W H pace m (sn W H pace m) goal tick (W * r) i).1) (k + 1), L, R)
        have hrun := wW_run (W := W) (H := H) hp1 hw1 (by omega) (by rw [← htk]; exact hq)
        have key183 : ∀ many, many = (if q = c then 1 else pace) → jWP w l mX11_tellWay 3 0 0 (fun r_1 t => r_1 = some (.int (nI (goal - tick + 1))) ∧ t = (n, shE, fl I 1093 (fun i => nI (wW W H pace m (sn W H pace m) goal tick (W * r) i).1) (goal - tick + 1), L, R)) (fun _ _ => False) 180 [(0, .ref 1069), (1, .int (nI p)), (2, .int (nI tick)), (3, .int (nI c)), (4, .int (nI t)), (5, .int (nI goal)), (6, .int (nI q)), (7, .int (nI many))] [] (n, shE, fl I 1093 (fun i => nI (wW W H pace m (sn W H pace m) goal tick (W * r) i).1) (k + 1), L, R) := by
          intro many hmany
          have hm1 : 1 ≤ many ∧ many ≤ 7 ∧ t + many ≤ goal ∧ sn W H pace m q (t + many) = goal := by
            rcases hqp with ⟨e, e1, e2⟩ | ⟨e, e1, e2⟩
            · rw [if_pos e] at hmany
              subst hmany e
              exact ⟨by omega, by omega, by omega, e2⟩
            · rw [if_neg e] at hmany
              subst hmany
              have e3 : t + many < 96 := by simp [stp] at e1; exact e1.1
              have e4 := sn_ge hp1 (W := W) (H := H) (m := m) _ q (t + many) e3 rfl
              exact ⟨hp1, hp7, by omega, e2⟩
          obtain ⟨hm1, hm7, hmg, hms⟩ := hm1
          have keyj : ∀ i, i ≤ many → jWP w l mX11_tellWay 3 0 0 (fun r_1 t => r_1 = some (.int (nI (goal - tick + 1))) ∧ t = (n, shE, fl I 1093 (fun i => nI (wW W H pace m (sn W H pace m) goal tick (W * r) i).1) (goal - tick + 1), L, R)) (fun _ _ => False) 183 [(0, .ref 1069), (1, .int (nI p)), (2, .int (nI tick)), (3, .int (nI c)), (4, .int (nI t)), (5, .int (nI goal)), (6, .int (nI q)), (7, .int (nI many)), (8, .int (nI (i + 1)))] [] (n, shE, fl I 1093 (fun i => nI (wW W H pace m (sn W H pace m) goal tick (W * r) i).1) (k + (i + 1)), L, R) := by
            refine jdown _ (fun i hi ihi => ?_)
            refine jx_iload dX11_tellWay_183 rfl ?_
            refine jx_iload dX11_tellWay_185 rfl ?_
            refine jx_icmpN_gt (a := (i + 1)) (b := many) 210 dX11_tellWay_187 (by decide) (by omega) (by omega) (fun h187 => ?_) (fun h187 => ?_)
            · refine jx_iload dX11_tellWay_210 rfl ?_
              refine jx_iload dX11_tellWay_212 rfl ?_
              refine jx_iaddE (z := nI (t + many)) dX11_tellWay_214 (nI_add t many) ?_
              refine jx_istore dX11_tellWay_215 (by decide) ?_
              refine jx_iload dX11_tellWay_217 rfl ?_
              refine jx_istore_n dX11_tellWay_219 rfl (by decide) ?_
              refine jx_goto 30 dX11_tellWay_220 (by decide) ?_
              have hi2 : i = many := by omega
              subst hi2
              have hr2 := hrun i hm1 (by omega)
              exact jx_ls (by exact ⟨rfl, rfl, rfl, rfl, rfl, rfl, trivial⟩) (ih (goal - (t + i)) (by omega) (k + i) (t + i) q rfl (by omega) hmg hqH hms (by rw [hr2]) (by rw [hr2]; show tick + k + _ ≤ _; omega))
            · refine jx_aload_n dX11_tellWay_190 rfl ?_
              refine jx_getR dX11_tellWay_191 flX11_103 rfl rfl (hR _ _ _ rfl) ?_
              refine jx_iload dX11_tellWay_194 rfl ?_
              refine jx_iload_n dX11_tellWay_196 rfl ?_
              refine jx_isubE (z := nI (t - tick)) dX11_tellWay_197 (pk_sub (a := t) (b := tick) (by omega)) ?_
              refine jx_iload dX11_tellWay_198 rfl ?_
              refine jx_iaddE (z := nI ((t - tick) + (i + 1))) dX11_tellWay_200 (nI_add (t - tick) (i + 1)) ?_
              refine jx_iload dX11_tellWay_201 rfl ?_
              refine jx_iastN (k + (i + 1)) dX11_tellWay_203 rfl (congrArg nI (by omega)) (by omega) (by omega) ?_
              refine jx_iinc dX11_tellWay_204 rfl (v := nI ((i + 1) + 1)) (nI_1 _) (by decide) ?_
              refine jx_goto 183 dX11_tellWay_207 (by decide) ?_
              have e : upI (fl I 1093 (fun i => nI (wW W H pace m (sn W H pace m) goal tick (W * r) i).1) (k + (i + 1))) 1093 (k + (i + 1)) (nI q) = fl I 1093 (fun i => nI (wW W H pace m (sn W H pace m) goal tick (W * r) i).1) (k + (i + 1 + 1)) := by
                have h2 : nI (wW W H pace m (sn W H pace m) goal tick (W * r) (k + (i + 1))).1 = nI q := by rw [hrun (i + 1) (by omega) (by omega)]
                rw [← h2]
                exact fl_s I 1093 (fun i => nI (wW W H pace m (sn W H pace m) goal tick (W * r) i).1) (k + (i + 1))
              rw [e]
              exact jx_ls (by exact ⟨rfl, rfl, rfl, rfl, rfl, rfl, rfl, rfl, rfl, trivial⟩) (ihi (by omega))
          have k0 := keyj 0 (by omega)
          refine jx_iconst (v := 1) dX11_tellWay_180 (by decide) ?_
          refine jx_istore dX11_tellWay_181 (by decide) ?_
          exact jx_ls (by exact ⟨rfl, rfl, rfl, rfl, rfl, rfl, rfl, rfl, rfl, trivial⟩) k0
        refine jx_iload dX11_tellWay_164 rfl ?_
        refine jx_iload_n dX11_tellWay_166 rfl ?_
        refine jx_icmpN_ne (a := q) (b := c) 174 dX11_tellWay_167 (by decide) (by omega) (by omega) (fun h167 => ?_) (fun h167 => ?_)
        · refine jx_aload_n dX11_tellWay_174 rfl ?_
          refine jx_getIE dX11_tellWay_175 flX11_399 rfl rfl (hJp) ?_
          refine jx_istore dX11_tellWay_178 (by decide) ?_
          exact jx_ls (by exact ⟨rfl, rfl, rfl, rfl, rfl, rfl, rfl, rfl, trivial⟩) (key183 pace (by first | rw [if_pos h167] | rw [if_neg h167]))
        · refine jx_iconst (v := 1) dX11_tellWay_170 (by decide) ?_
          refine jx_goto 178 dX11_tellWay_171 (by decide) ?_
          refine jx_istore dX11_tellWay_178 (by decide) ?_
          exact jx_ls (by exact ⟨rfl, rfl, rfl, rfl, rfl, rfl, rfl, rfl, trivial⟩) (key183 1 (by first | rw [if_pos h167] | rw [if_neg h167]))
      have key92 : t < goal → ∀ v, v ≤ 4 → jWP w l mX11_tellWay 3 0 0 (fun r_1 t => r_1 = some (.int (nI (goal - tick + 1))) ∧ t = (n, shE, fl I 1093 (fun i => nI (wW W H pace m (sn W H pace m) goal tick (W * r) i).1) (goal - tick + 1), L, R)) (fun _ _ => False) 92 [(0, .ref 1069), (1, .int (nI p)), (2, .int (nI tick)), (3, .int (nI c)), (4, .int (nI t)), (5, .int (nI goal)), (6, .int (oI (nxU W H pace m (sn W H pace m) c t goal v))), (7, .int (nI v))] [] (n, shE, fl I 1093 (fun i => nI (wW W H pace m (sn W H pace m) goal tick (W * r) i).1) (k + 1), L, R) := by
        intro hlt
        refine jdown _ (fun v hv ihv => ?_)
        have hob : ∀ a, nxU W H pace m (sn W H pace m) c t goal v = some a → a < 2 ^ 31 := fun a ha => by
          have := (nx_prop (W := W) (H := H) (pace := pace) (m := m) hw3 hh1 hc v a ha).1
          omega
        refine jx_iload dX11_tellWay_92 rfl ?_
        refine jx_iconst (v := 4) dX11_tellWay_94 (by decide) ?_
        refine jx_icmpN_ge (a := v) (b := 4) 164 dX11_tellWay_95 (by decide) (by omega) (by omega) (fun h95 => ?_) (fun h95 => ?_)
        · have hv4 : v = 4 := by omega
          subst hv4
          exact jx_ls (by exact ⟨rfl, rfl, rfl, rfl, rfl, rfl, rfl, trivial⟩) (key164 hlt)
        · refine jx_aload_n dX11_tellWay_98 rfl ?_
          refine jx_iload_n dX11_tellWay_99 rfl ?_
          refine jx_iload dX11_tellWay_100 rfl ?_
          refine jx_Vi (as := [.int _, .int _]) dX11_tellWay_102 mlX11_402 okX11_besides viX11_besides rfl rfl rfl rfl rfl (by decide) (Nat.le_of_ble_eq_true rfl) (tX11_besides hW hR hJT hc h95) ?_
          cases hn : nbr W H c v with
          | none =>
            show jWP w l mX11_tellWay 3 0 0 _ _ 105 _ [.int (-1)] _
            refine jx_istore dX11_tellWay_105 (by decide) ?_
            refine jx_aload_n dX11_tellWay_107 rfl ?_
            refine jx_iload dX11_tellWay_108 rfl ?_
            refine jx_iload dX11_tellWay_110 rfl ?_
            refine jx_Vi (as := [.int _, .int _]) dX11_tellWay_112 mlX11_405 okX11_canStep viX11_canStep rfl rfl rfl rfl rfl (by decide) (Nat.le_of_ble_eq_true rfl) (tX11_canStep0 hW _) ?_
            refine jx_ifB_eq 158 dX11_tellWay_115 (by decide) (fun h115 => ?_) (fun h115 => by cases h115)
            refine jx_iinc dX11_tellWay_158 rfl (v := nI (v + 1)) (nI_1 _) (by decide) ?_
            refine jx_goto 92 dX11_tellWay_161 (by decide) ?_
            have kk := ihv h95
            rw [show nxU W H pace m (sn W H pace m) c t goal (v + 1) = nxU W H pace m (sn W H pace m) c t goal v from by show nxS W H pace m _ c t goal v _ = _; unfold nxS; rw [hn]] at kk
            exact jx_ls (by exact ⟨rfl, rfl, rfl, rfl, rfl, rfl, rfl, rfl, trivial⟩) kk
          | some q =>
            have hql := nbr_lt hw3 hh1 hc hn
            show jWP w l mX11_tellWay 3 0 0 _ _ 105 _ [.int (nI q)] _
            cases hb : nxU W H pace m (sn W H pace m) c t goal v with
            | none =>
              show jWP w l mX11_tellWay 3 0 0 _ _ 105 [(0, .ref 1069), (1, .int (nI p)), (2, .int (nI tick)), (3, .int (nI c)), (4, .int (nI t)), (5, .int (nI goal)), (6, .int (-1)), (7, .int (nI v))] [.int (nI q)] _
              refine jx_istore dX11_tellWay_105 (by decide) ?_
              refine jx_aload_n dX11_tellWay_107 rfl ?_
              refine jx_iload dX11_tellWay_108 rfl ?_
              refine jx_iload dX11_tellWay_110 rfl ?_
              refine jx_Vi (as := [.int _, .int _]) dX11_tellWay_112 mlX11_405 okX11_canStep viX11_canStep rfl rfl rfl rfl rfl (by decide) (Nat.le_of_ble_eq_true rfl) (tX11_canStep hW hR hJp hp1 hp7 (m := m) (by omega) (by omega) (fun j hj => hJm q j hql hj)) ?_
              refine jx_ifB_eq 158 dX11_tellWay_115 (by decide) (fun h115 => ?_) (fun h115 => ?_)
              · refine jx_iinc dX11_tellWay_158 rfl (v := nI (v + 1)) (nI_1 _) (by decide) ?_
                refine jx_goto 92 dX11_tellWay_161 (by decide) ?_
                have kk := ihv h95
                rw [show nxU W H pace m (sn W H pace m) c t goal (v + 1) = nxU W H pace m (sn W H pace m) c t goal v from by show nxS W H pace m _ c t goal v _ = _; unfold nxS; rw [hn]; exact if_neg (fun hh => by first | exact absurd hh.1 (by rw [h115]; decide) | exact absurd hh.2.1 h138 | (have h9 := hh.2.2; rw [hb] at h9; exact absurd (of_decide_eq_true h9) (by omega)))] at kk
                rw [hb] at kk
                exact jx_ls (by exact ⟨rfl, rfl, rfl, rfl, rfl, rfl, rfl, rfl, trivial⟩) kk
              · have hstp : t + pace < 96 := by simp [stp] at h115; exact h115.1
                have hsb := sn_le (W := W) (H := H) (pace := pace) (m := m) q (t + pace)
                refine jx_aload_n dX11_tellWay_118 rfl ?_
                refine jx_getR dX11_tellWay_119 flX11_97 rfl rfl (hR _ _ _ rfl) ?_
                refine jx_bipush (v := 96) dX11_tellWay_122 (by decide) ?_
                refine jx_iload dX11_tellWay_124 rfl ?_
                refine jx_imulE (z := nI (96 * q)) dX11_tellWay_126 (pk_mul 96 q) ?_
                refine jx_iload dX11_tellWay_127 rfl ?_
                refine jx_iaddE (z := nI ((96 * q) + t)) dX11_tellWay_129 (nI_add (96 * q) t) ?_
                refine jx_aload_n dX11_tellWay_130 rfl ?_
                refine jx_getIE dX11_tellWay_131 flX11_399 rfl rfl (hJp) ?_
                refine jx_iaddE (z := nI (((96 * q) + t) + pace)) dX11_tellWay_134 (nI_add ((96 * q) + t) pace) ?_
                refine jx_ialdE (((96 * q) + t) + pace) dX11_tellWay_135 rfl (rfl) (by omega) (by omega) ((congrArg (fl I 1093 (fun i => nI (wW W H pace m (sn W H pace m) goal tick (W * r) i).1) (k + 1) 1091) (Nat.add_assoc (96 * q) t pace)).trans (hJs q (t + pace) hql (by simp [stp] at h115; exact h115.1))) ?_
                refine jx_iload dX11_tellWay_136 rfl ?_
                refine jx_icmpN_ne (a := (sn W H pace m q (t + pace))) (b := goal) 158 dX11_tellWay_138 (by decide) (by omega) (by omega) (fun h138 => ?_) (fun h138 => ?_)
                · refine jx_iinc dX11_tellWay_158 rfl (v := nI (v + 1)) (nI_1 _) (by decide) ?_
                  refine jx_goto 92 dX11_tellWay_161 (by decide) ?_
                  have kk := ihv h95
                  rw [show nxU W H pace m (sn W H pace m) c t goal (v + 1) = nxU W H pace m (sn W H pace m) c t goal v from by show nxS W H pace m _ c t goal v _ = _; unfold nxS; rw [hn]; exact if_neg (fun hh => by first | exact absurd hh.1 (by rw [h115]; decide) | exact absurd hh.2.1 h138 | (have h9 := hh.2.2; rw [hb] at h9; exact absurd (of_decide_eq_true h9) (by omega)))] at kk
                  rw [hb] at kk
                  exact jx_ls (by exact ⟨rfl, rfl, rfl, rfl, rfl, rfl, rfl, rfl, trivial⟩) kk
                · refine jx_iload dX11_tellWay_141 rfl ?_
                  refine jx_iconst (v := -1) dX11_tellWay_143 (by decide) ?_
                  refine jx_icmp_eq 154 dX11_tellWay_144 (by decide) (fun h144 => ?_) (fun h144 => ?_)
                  · refine jx_iload dX11_tellWay_154 rfl ?_
                    refine jx_istore dX11_tellWay_156 (by decide) ?_
                    refine jx_iinc dX11_tellWay_158 rfl (v := nI (v + 1)) (nI_1 _) (by decide) ?_
                    refine jx_goto 92 dX11_tellWay_161 (by decide) ?_
                    have kk := ihv h95
                    rw [show nxU W H pace m (sn W H pace m) c t goal (v + 1) = some q from by show nxS W H pace m _ c t goal v _ = _; unfold nxS; rw [hn]; exact if_pos ⟨h115, h138, (by first | (rw [hb]; rfl) | (rw [hb]; exact decide_eq_true h151))⟩] at kk
                    exact jx_ls (by exact ⟨rfl, rfl, rfl, rfl, rfl, rfl, rfl, rfl, trivial⟩) kk
                  · exact absurd rfl h144
            | some x =>
              have hxb := hob x hb
              show jWP w l mX11_tellWay 3 0 0 _ _ 105 [(0, .ref 1069), (1, .int (nI p)), (2, .int (nI tick)), (3, .int (nI c)), (4, .int (nI t)), (5, .int (nI goal)), (6, .int (nI x)), (7, .int (nI v))] [.int (nI q)] _
              refine jx_istore dX11_tellWay_105 (by decide) ?_
              refine jx_aload_n dX11_tellWay_107 rfl ?_
              refine jx_iload dX11_tellWay_108 rfl ?_
              refine jx_iload dX11_tellWay_110 rfl ?_
              refine jx_Vi (as := [.int _, .int _]) dX11_tellWay_112 mlX11_405 okX11_canStep viX11_canStep rfl rfl rfl rfl rfl (by decide) (Nat.le_of_ble_eq_true rfl) (tX11_canStep hW hR hJp hp1 hp7 (m := m) (by omega) (by omega) (fun j hj => hJm q j hql hj)) ?_
              refine jx_ifB_eq 158 dX11_tellWay_115 (by decide) (fun h115 => ?_) (fun h115 => ?_)
              · refine jx_iinc dX11_tellWay_158 rfl (v := nI (v + 1)) (nI_1 _) (by decide) ?_
                refine jx_goto 92 dX11_tellWay_161 (by decide) ?_
                have kk := ihv h95
                rw [show nxU W H pace m (sn W H pace m) c t goal (v + 1) = nxU W H pace m (sn W H pace m) c t goal v from by show nxS W H pace m _ c t goal v _ = _; unfold nxS; rw [hn]; exact if_neg (fun hh => by first | exact absurd hh.1 (by rw [h115]; decide) | exact absurd hh.2.1 h138 | (have h9 := hh.2.2; rw [hb] at h9; exact absurd (of_decide_eq_true h9) (by omega)))] at kk
                rw [hb] at kk
                exact jx_ls (by exact ⟨rfl, rfl, rfl, rfl, rfl, rfl, rfl, rfl, trivial⟩) kk
              · have hstp : t + pace < 96 := by simp [stp] at h115; exact h115.1
                have hsb := sn_le (W := W) (H := H) (pace := pace) (m := m) q (t + pace)
                refine jx_aload_n dX11_tellWay_118 rfl ?_
                refine jx_getR dX11_tellWay_119 flX11_97 rfl rfl (hR _ _ _ rfl) ?_
                refine jx_bipush (v := 96) dX11_tellWay_122 (by decide) ?_
                refine jx_iload dX11_tellWay_124 rfl ?_
                refine jx_imulE (z := nI (96 * q)) dX11_tellWay_126 (pk_mul 96 q) ?_
                refine jx_iload dX11_tellWay_127 rfl ?_
                refine jx_iaddE (z := nI ((96 * q) + t)) dX11_tellWay_129 (nI_add (96 * q) t) ?_
                refine jx_aload_n dX11_tellWay_130 rfl ?_
                refine jx_getIE dX11_tellWay_131 flX11_399 rfl rfl (hJp) ?_
                refine jx_iaddE (z := nI (((96 * q) + t) + pace)) dX11_tellWay_134 (nI_add ((96 * q) + t) pace) ?_
                refine jx_ialdE (((96 * q) + t) + pace) dX11_tellWay_135 rfl (rfl) (by omega) (by omega) ((congrArg (fl I 1093 (fun i => nI (wW W H pace m (sn W H pace m) goal tick (W * r) i).1) (k + 1) 1091) (Nat.add_assoc (96 * q) t pace)).trans (hJs q (t + pace) hql (by simp [stp] at h115; exact h115.1))) ?_
                refine jx_iload dX11_tellWay_136 rfl ?_
                refine jx_icmpN_ne (a := (sn W H pace m q (t + pace))) (b := goal) 158 dX11_tellWay_138 (by decide) (by omega) (by omega) (fun h138 => ?_) (fun h138 => ?_)
                · refine jx_iinc dX11_tellWay_158 rfl (v := nI (v + 1)) (nI_1 _) (by decide) ?_
                  refine jx_goto 92 dX11_tellWay_161 (by decide) ?_
                  have kk := ihv h95
                  rw [show nxU W H pace m (sn W H pace m) c t goal (v + 1) = nxU W H pace m (sn W H pace m) c t goal v from by show nxS W H pace m _ c t goal v _ = _; unfold nxS; rw [hn]; exact if_neg (fun hh => by first | exact absurd hh.1 (by rw [h115]; decide) | exact absurd hh.2.1 h138 | (have h9 := hh.2.2; rw [hb] at h9; exact absurd (of_decide_eq_true h9) (by omega)))] at kk
                  rw [hb] at kk
                  exact jx_ls (by exact ⟨rfl, rfl, rfl, rfl, rfl, rfl, rfl, rfl, trivial⟩) kk
                · refine jx_iload dX11_tellWay_141 rfl ?_
                  refine jx_iconst (v := -1) dX11_tellWay_143 (by decide) ?_
                  refine jx_icmp_eq 154 dX11_tellWay_144 (by decide) (fun h144 => ?_) (fun h144 => ?_)
                  · exfalso
                    have e2 := congrArg Int32.toInt h144
                    rw [nI_toInt (hob x hb), show (-1 : Int32).toInt = -1 from by decide] at e2
                    omega
                  · refine jx_iload dX11_tellWay_147 rfl ?_
                    refine jx_iload dX11_tellWay_149 rfl ?_
                    refine jx_icmpN_ge (a := q) (b := x) 158 dX11_tellWay_151 (by decide) (by omega) (by omega) (fun h151 => ?_) (fun h151 => ?_)
                    · refine jx_iinc dX11_tellWay_158 rfl (v := nI (v + 1)) (nI_1 _) (by decide) ?_
                      refine jx_goto 92 dX11_tellWay_161 (by decide) ?_
                      have kk := ihv h95
                      rw [show nxU W H pace m (sn W H pace m) c t goal (v + 1) = nxU W H pace m (sn W H pace m) c t goal v from by show nxS W H pace m _ c t goal v _ = _; unfold nxS; rw [hn]; exact if_neg (fun hh => by first | exact absurd hh.1 (by rw [h115]; decide) | exact absurd hh.2.1 h138 | (have h9 := hh.2.2; rw [hb] at h9; exact absurd (of_decide_eq_true h9) (by omega)))] at kk
                      rw [hb] at kk
                      exact jx_ls (by exact ⟨rfl, rfl, rfl, rfl, rfl, rfl, rfl, rfl, trivial⟩) kk
                    · refine jx_iload dX11_tellWay_154 rfl ?_
                      refine jx_istore dX11_tellWay_156 (by decide) ?_
                      refine jx_iinc dX11_tellWay_158 rfl (v := nI (v + 1)) (nI_1 _) (by decide) ?_
                      refine jx_goto 92 dX11_tellWay_161 (by decide) ?_
                      have kk := ihv h95
                      rw [show nxU W H pace m (sn W H pace m) c t goal (v + 1) = some q from by show nxS W H pace m _ c t goal v _ = _; unfold nxS; rw [hn]; exact if_pos ⟨h115, h138, (by first | (rw [hb]; rfl) | (rw [hb]; exact decide_eq_true h151))⟩] at kk
                      exact jx_ls (by exact ⟨rfl, rfl, rfl, rfl, rfl, rfl, rfl, rfl, trivial⟩) kk
      refine jx_iload dX11_tellWay_30 rfl ?_
      refine jx_iload dX11_tellWay_32 rfl ?_
      refine jx_icmpN_ge (a := t) (b := goal) 223 dX11_tellWay_34 (by decide) (by omega) (by omega) (fun h34 => ?_) (fun h34 => ?_)
      · refine jx_iload dX11_tellWay_223 rfl ?_
        refine jx_iload_n dX11_tellWay_225 rfl ?_
        refine jx_isubE (z := nI (goal - tick)) dX11_tellWay_226 (pk_sub (a := goal) (b := tick) (by omega)) ?_
        refine jx_iconst (v := 1) dX11_tellWay_227 (by decide) ?_
        refine jx_iaddE (z := nI ((goal - tick) + 1)) dX11_tellWay_228 (nI_add (goal - tick) 1) ?_
        refine jx_iret dX11_tellWay_229 rfl ?_
        have e1 : t = goal := by omega
        refine ⟨rfl, ?_⟩
        rw [show k + 1 = goal - tick + 1 by omega]
      · refine jx_iload dX11_tellWay_37 rfl ?_
        refine jx_iconst (v := 1) dX11_tellWay_39 (by decide) ?_
        refine jx_iaddE (z := nI (t + 1)) dX11_tellWay_40 (nI_add t 1) ?_
        refine jx_bipush (v := 96) dX11_tellWay_41 (by decide) ?_
        refine jx_icmpN_ge (a := (t + 1)) (b := 96) 86 dX11_tellWay_43 (by decide) (by omega) (by omega) (fun h43 => ?_) (fun h43 => ?_)
        · refine jx_iconst (v := -1) dX11_tellWay_86 (by decide) ?_
          refine jx_istore dX11_tellWay_87 (by decide) ?_
          refine jx_iconst (v := 0) dX11_tellWay_89 (by decide) ?_
          refine jx_istore dX11_tellWay_90 (by decide) ?_
          have kk := key92 h34 0 (by omega)
          rw [show nxU W H pace m (sn W H pace m) c t goal 0 = none from by show nx0 m _ c t goal = _; unfold nx0; exact if_neg (fun hh => by first | exact absurd hh.1 (by omega) | exact absurd hh.2.1 (by rw [h60]; decide) | exact absurd hh.2.2 h79)] at kk
          exact jx_ls (by exact ⟨rfl, rfl, rfl, rfl, rfl, rfl, rfl, rfl, trivial⟩) kk
        · refine jx_aload_n dX11_tellWay_46 rfl ?_
          refine jx_getR dX11_tellWay_47 flX11_94 rfl rfl (hR _ _ _ rfl) ?_
          refine jx_bipush (v := 96) dX11_tellWay_50 (by decide) ?_
          refine jx_iload_n dX11_tellWay_52 rfl ?_
          refine jx_imulE (z := nI (96 * c)) dX11_tellWay_53 (pk_mul 96 c) ?_
          refine jx_iload dX11_tellWay_54 rfl ?_
          refine jx_iaddE (z := nI ((96 * c) + t)) dX11_tellWay_56 (nI_add (96 * c) t) ?_
          refine jx_iconst (v := 1) dX11_tellWay_57 (by decide) ?_
          refine jx_iaddE (z := nI (((96 * c) + t) + 1)) dX11_tellWay_58 (nI_add ((96 * c) + t) 1) ?_
          refine jx_zaldE (((96 * c) + t) + 1) dX11_tellWay_59 rfl (rfl) (by omega) (by omega) ((congrArg (fl I 1093 (fun i => nI (wW W H pace m (sn W H pace m) goal tick (W * r) i).1) (k + 1) 1090) (Nat.add_assoc (96 * c) t 1)).trans (hJm c (t + 1) hc h43)) ?_
          refine jx_ifB_eq 86 dX11_tellWay_60 (by decide) (fun h60 => ?_) (fun h60 => ?_)
          · refine jx_iconst (v := -1) dX11_tellWay_86 (by decide) ?_
            refine jx_istore dX11_tellWay_87 (by decide) ?_
            refine jx_iconst (v := 0) dX11_tellWay_89 (by decide) ?_
            refine jx_istore dX11_tellWay_90 (by decide) ?_
            have kk := key92 h34 0 (by omega)
            rw [show nxU W H pace m (sn W H pace m) c t goal 0 = none from by show nx0 m _ c t goal = _; unfold nx0; exact if_neg (fun hh => by first | exact absurd hh.1 (by omega) | exact absurd hh.2.1 (by rw [h60]; decide) | exact absurd hh.2.2 h79)] at kk
            exact jx_ls (by exact ⟨rfl, rfl, rfl, rfl, rfl, rfl, rfl, rfl, trivial⟩) kk
          · have hsb := sn_le (W := W) (H := H) (pace := pace) (m := m) c (t + 1)
            refine jx_aload_n dX11_tellWay_63 rfl ?_
            refine jx_getR dX11_tellWay_64 flX11_97 rfl rfl (hR _ _ _ rfl) ?_
            refine jx_bipush (v := 96) dX11_tellWay_67 (by decide) ?_
            refine jx_iload_n dX11_tellWay_69 rfl ?_
            refine jx_imulE (z := nI (96 * c)) dX11_tellWay_70 (pk_mul 96 c) ?_
            refine jx_iload dX11_tellWay_71 rfl ?_
            refine jx_iaddE (z := nI ((96 * c) + t)) dX11_tellWay_73 (nI_add (96 * c) t) ?_
            refine jx_iconst (v := 1) dX11_tellWay_74 (by decide) ?_
            refine jx_iaddE (z := nI (((96 * c) + t) + 1)) dX11_tellWay_75 (nI_add ((96 * c) + t) 1) ?_
            refine jx_ialdE (((96 * c) + t) + 1) dX11_tellWay_76 rfl (rfl) (by omega) (by omega) ((congrArg (fl I 1093 (fun i => nI (wW W H pace m (sn W H pace m) goal tick (W * r) i).1) (k + 1) 1091) (Nat.add_assoc (96 * c) t 1)).trans (hJs c (t + 1) hc h43)) ?_
            refine jx_iload dX11_tellWay_77 rfl ?_
            refine jx_icmpN_ne (a := (sn W H pace m c (t + 1))) (b := goal) 86 dX11_tellWay_79 (by decide) (by omega) (by omega) (fun h79 => ?_) (fun h79 => ?_)
            · refine jx_iconst (v := -1) dX11_tellWay_86 (by decide) ?_
              refine jx_istore dX11_tellWay_87 (by decide) ?_
              refine jx_iconst (v := 0) dX11_tellWay_89 (by decide) ?_
              refine jx_istore dX11_tellWay_90 (by decide) ?_
              have kk := key92 h34 0 (by omega)
              rw [show nxU W H pace m (sn W H pace m) c t goal 0 = none from by show nx0 m _ c t goal = _; unfold nx0; exact if_neg (fun hh => by first | exact absurd hh.1 (by omega) | exact absurd hh.2.1 (by rw [h60]; decide) | exact absurd hh.2.2 h79)] at kk
              exact jx_ls (by exact ⟨rfl, rfl, rfl, rfl, rfl, rfl, rfl, rfl, trivial⟩) kk
            · refine jx_iload_n dX11_tellWay_82 rfl ?_
              refine jx_goto 87 dX11_tellWay_83 (by decide) ?_
              refine jx_istore dX11_tellWay_87 (by decide) ?_
              refine jx_iconst (v := 0) dX11_tellWay_89 (by decide) ?_
              refine jx_istore dX11_tellWay_90 (by decide) ?_
              have kk := key92 h34 0 (by omega)
              rw [show nxU W H pace m (sn W H pace m) c t goal 0 = some c from by show nx0 m _ c t goal = _; unfold nx0; exact if_pos ⟨h43, h60, h79⟩] at kk
              exact jx_ls (by exact ⟨rfl, rfl, rfl, rfl, rfl, rfl, rfl, rfl, trivial⟩) kk
  refine jx_aload_n dX11_tellWay_0 rfl ?_
  refine jx_iload_n dX11_tellWay_1 rfl ?_
  refine jx_Vi (as := [.int _]) dX11_tellWay_2 mlX11_424 okX11_shoreOf viX11_shoreOf rfl rfl rfl rfl rfl (by decide) (Nat.le_of_ble_eq_true rfl) (tX11_shoreOf hW hR hT hp hr) ?_
  refine jx_istore_n dX11_tellWay_5 rfl (by decide) ?_
  refine jx_iload_n dX11_tellWay_6 rfl ?_
  refine jx_istore dX11_tellWay_7 (by decide) ?_
  refine jx_aload_n dX11_tellWay_9 rfl ?_
  refine jx_getR dX11_tellWay_10 flX11_97 rfl rfl (hR _ _ _ rfl) ?_
  refine jx_bipush (v := 96) dX11_tellWay_13 (by decide) ?_
  refine jx_iload_n dX11_tellWay_15 rfl ?_
  refine jx_imulE (z := nI (96 * (W * r))) dX11_tellWay_16 (pk_mul 96 (W * r)) ?_
  refine jx_iload dX11_tellWay_17 rfl ?_
  refine jx_iaddE (z := nI ((96 * (W * r)) + tick)) dX11_tellWay_19 (nI_add (96 * (W * r)) tick) ?_
  refine jx_ialdE ((96 * (W * r)) + tick) dX11_tellWay_20 rfl (rfl) (by omega) (by omega) ((hsn _ _ hwr ht).trans (congrArg nI hg)) ?_
  refine jx_istore dX11_tellWay_21 (by decide) ?_
  refine jx_aload_n dX11_tellWay_23 rfl ?_
  refine jx_getR dX11_tellWay_24 flX11_103 rfl rfl (hR _ _ _ rfl) ?_
  refine jx_iconst (v := 0) dX11_tellWay_27 (by decide) ?_
  refine jx_iload_n dX11_tellWay_28 rfl ?_
  refine jx_iastN (0) dX11_tellWay_29 rfl (rfl) (by omega) (by omega) ?_
  have e : upI I 1093 0 (nI (W * r)) = fl I 1093 (fun i => nI (wW W H pace m (sn W H pace m) goal tick (W * r) i).1) (0 + 1) := by
    have := fl_s I 1093 (fun i => nI (wW W H pace m (sn W H pace m) goal tick (W * r) i).1) 0
    rw [fl_0] at this
    exact this
  rw [e]
  exact jx_ls (by exact ⟨rfl, rfl, rfl, rfl, rfl, rfl, trivial⟩) (key (goal - tick) 0 tick (W * r) rfl rfl hgt0 hwr hg rfl (Nat.le_refl _))
end RH
