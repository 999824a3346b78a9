/-! THE START: a picture of the world -/
theorem sr_0 : Cond.stringRef RX10 83 "the tape has not so many bytes" ∈ lw_tbl := jm3 212 rfl
theorem sr_1 : Cond.stringRef RX5 49 "sands" ∈ lw_tbl := jm4 15 rfl
theorem sr_2 : Cond.stringRef RX5 144 "height" ∈ lw_tbl := jm4 98 rfl
theorem sr_3 : Cond.stringRef RX5 146 "rock" ∈ lw_tbl := jm4 99 rfl
theorem sr_4 : Cond.stringRef RX5 148 "ladder" ∈ lw_tbl := jm4 100 rfl
theorem sr_5 : Cond.stringRef RX5 150 "quick" ∈ lw_tbl := jm4 101 rfl
theorem sr_6 : Cond.stringRef RX5 152 "walk" ∈ lw_tbl := jm4 102 rfl
theorem sr_7 : Cond.stringRef RX5 154 "horse" ∈ lw_tbl := jm4 103 rfl
theorem sr_8 : Cond.stringRef RX5 156 "stilts" ∈ lw_tbl := jm4 104 rfl
theorem sr_9 : Cond.stringRef RX5 158 "run" ∈ lw_tbl := jm4 105 rfl
theorem sr_10 : Cond.stringRef RX5 160 "quarrel" ∈ lw_tbl := jm4 106 rfl
theorem sr_11 : Cond.stringRef RX5 165 "moves" ∈ lw_tbl := jm4 111 rfl
theorem sr_12 : Cond.stringRef RX5 167 "wind" ∈ lw_tbl := jm4 112 rfl
theorem sr_13 : Cond.stringRef RX5 169 "ebb" ∈ lw_tbl := jm4 113 rfl
theorem sr_14 : Cond.stringRef RX5 171 "wait" ∈ lw_tbl := jm4 114 rfl
theorem sr_15 : Cond.stringRef RX5 173 "fog" ∈ lw_tbl := jm4 115 rfl
theorem sr_16 : Cond.stringRef RX5 175 "water" ∈ lw_tbl := jm4 116 rfl
theorem sr_17 : Cond.stringRef RX7 81 "not" ∈ lw_tbl := jm4 222 rfl
theorem sr_18 : Cond.stringRef RX7 105 "hour" ∈ lw_tbl := jm4 232 rfl
theorem sr_19 : Cond.stringRef RX7 107 "tick" ∈ lw_tbl := jm4 233 rfl
theorem sr_20 : Cond.stringRef RX7 109 "day" ∈ lw_tbl := jm4 234 rfl
theorem sr_21 : Cond.stringRef RX7 111 "wind" ∈ lw_tbl := jm4 235 rfl
theorem sr_22 : Cond.stringRef RX7 124 "or" ∈ lw_tbl := jm5 4 rfl
theorem sr_23 : Cond.stringRef RX7 126 "and" ∈ lw_tbl := jm5 5 rfl
theorem sr_24 : Cond.stringRef RX10 155 "nothing such is counted" ∈ lw_tbl := jm5 39 rfl
theorem sr_25 : Cond.stringRef RX10 377 "no such cell" ∈ lw_tbl := jm5 57 rfl
theorem sr_26 : Cond.stringRef RX10 168 "nothing such is told of a cell" ∈ lw_tbl := jm5 63 rfl
theorem sr_27 : Cond.stringRef RX10 379 "no such day" ∈ lw_tbl := jm5 75 rfl
theorem sr_28 : Cond.stringRef RX10 381 "no such tick" ∈ lw_tbl := jm5 92 rfl
theorem sr_29 : Cond.stringRef RX10 383 "no such party" ∈ lw_tbl := jm5 108 rfl
theorem sr_30 : Cond.stringRef RX10 215 "nothing such is told of a party" ∈ lw_tbl := jm5 109 rfl
theorem sr_31 : Cond.stringRef RX10 240 "no way is kept" ∈ lw_tbl := jm5 153 rfl
theorem sr_32 : Cond.stringRef RX10 242 "the way has no such tick" ∈ lw_tbl := jm5 154 rfl
theorem sr_33 : Cond.stringRef RX10 244 "nothing such is told of starts" ∈ lw_tbl := jm5 162 rfl
theorem sr_34 : Cond.stringRef RX10 385 "no such crossing is booked" ∈ lw_tbl := jm5 199 rfl
theorem sr_35 : Cond.stringRef RX10 274 "nothing such is told of what is booked" ∈ lw_tbl := jm5 200 rfl
theorem sr_36 : Cond.stringRef RX10 279 "both are one" ∈ lw_tbl := jm5 219 rfl
theorem sr_37 : Cond.stringRef RX10 309 "no burials are kept" ∈ lw_tbl := jm6 6 rfl
theorem sr_38 : Cond.stringRef RX10 326 "nothing such is told of motions" ∈ lw_tbl := jm6 51 rfl
theorem sr_39 : Cond.stringRef RX10 340 "no such later tick" ∈ lw_tbl := jm6 82 rfl
theorem sr_40 : Cond.stringRef RX10 342 "nothing such is told of vigils" ∈ lw_tbl := jm6 90 rfl
theorem sr_41 : Cond.stringRef RX10 354 "nothing such is told of rents" ∈ lw_tbl := jm6 109 rfl
theorem sr_42 : Cond.stringRef RX10 367 "no such number of days" ∈ lw_tbl := jm6 141 rfl
theorem sr_43 : Cond.stringRef RX11 9 "walk" ∈ lw_tbl := jm6 156 rfl
theorem sr_44 : Cond.stringRef RX11 11 "horse" ∈ lw_tbl := jm6 157 rfl
theorem sr_45 : Cond.stringRef RX11 13 "stilts" ∈ lw_tbl := jm6 158 rfl
theorem sr_46 : Cond.stringRef RX11 15 "run" ∈ lw_tbl := jm6 159 rfl
theorem sr_47 : Cond.stringRef RX11 23 "hour" ∈ lw_tbl := jm6 160 rfl
theorem sr_48 : Cond.stringRef RX11 25 "tick" ∈ lw_tbl := jm6 161 rfl
theorem sr_49 : Cond.stringRef RX11 27 "day" ∈ lw_tbl := jm6 162 rfl
theorem sr_50 : Cond.stringRef RX11 29 "wind" ∈ lw_tbl := jm6 163 rfl
theorem sr_51 : Cond.stringRef RX11 354 "sands" ∈ lw_tbl := jm7 172 rfl
theorem sr_52 : Cond.stringRef RX11 314 "moves" ∈ lw_tbl := jm7 203 rfl
theorem sr_53 : Cond.stringRef RX11 316 "ebb" ∈ lw_tbl := jm7 204 rfl
theorem sr_54 : Cond.stringRef RX11 318 "wait" ∈ lw_tbl := jm7 205 rfl
theorem sr_55 : Cond.stringRef RX11 320 "fog" ∈ lw_tbl := jm7 206 rfl
theorem sr_56 : Cond.stringRef RX11 322 "water" ∈ lw_tbl := jm7 207 rfl
theorem sr_57 : Cond.stringRef RX11 293 "not" ∈ lw_tbl := jm7 232 rfl
theorem sr_58 : Cond.stringRef RX11 301 "and" ∈ lw_tbl := jm8 9 rfl
theorem sr_59 : Cond.stringRef RX11 306 "or" ∈ lw_tbl := jm8 10 rfl
theorem sr_60 : Cond.stringRef RX11 333 "height" ∈ lw_tbl := jm8 15 rfl
theorem sr_61 : Cond.stringRef RX11 337 "quarrel" ∈ lw_tbl := jm8 24 rfl
theorem sr_62 : Cond.stringRef RX11 342 "rock" ∈ lw_tbl := jm8 33 rfl
theorem sr_63 : Cond.stringRef RX11 344 "ladder" ∈ lw_tbl := jm8 34 rfl
theorem sr_64 : Cond.stringRef RX11 346 "quick" ∈ lw_tbl := jm8 35 rfl
theorem sr_all : ∀ q ∈ jsr, Cond.stringRef q.1 q.2.1 q.2.2.1 ∈ lw_tbl := List.forall_mem_cons.mpr ⟨sr_0, List.forall_mem_cons.mpr ⟨sr_1, List.forall_mem_cons.mpr ⟨sr_2, List.forall_mem_cons.mpr ⟨sr_3, List.forall_mem_cons.mpr ⟨sr_4, List.forall_mem_cons.mpr ⟨sr_5, List.forall_mem_cons.mpr ⟨sr_6, List.forall_mem_cons.mpr ⟨sr_7, List.forall_mem_cons.mpr ⟨sr_8, List.forall_mem_cons.mpr ⟨sr_9, List.forall_mem_cons.mpr ⟨sr_10, List.forall_mem_cons.mpr ⟨sr_11, List.forall_mem_cons.mpr ⟨sr_12, List.forall_mem_cons.mpr ⟨sr_13, List.forall_mem_cons.mpr ⟨sr_14, List.forall_mem_cons.mpr ⟨sr_15, List.forall_mem_cons.mpr ⟨sr_16, List.forall_mem_cons.mpr ⟨sr_17, List.forall_mem_cons.mpr ⟨sr_18, List.forall_mem_cons.mpr ⟨sr_19, List.forall_mem_cons.mpr ⟨sr_20, List.forall_mem_cons.mpr ⟨sr_21, List.forall_mem_cons.mpr ⟨sr_22, List.forall_mem_cons.mpr ⟨sr_23, List.forall_mem_cons.mpr ⟨sr_24, List.forall_mem_cons.mpr ⟨sr_25, List.forall_mem_cons.mpr ⟨sr_26, List.forall_mem_cons.mpr ⟨sr_27, List.forall_mem_cons.mpr ⟨sr_28, List.forall_mem_cons.mpr ⟨sr_29, List.forall_mem_cons.mpr ⟨sr_30, List.forall_mem_cons.mpr ⟨sr_31, List.forall_mem_cons.mpr ⟨sr_32, List.forall_mem_cons.mpr ⟨sr_33, List.forall_mem_cons.mpr ⟨sr_34, List.forall_mem_cons.mpr ⟨sr_35, List.forall_mem_cons.mpr ⟨sr_36, List.forall_mem_cons.mpr ⟨sr_37, List.forall_mem_cons.mpr ⟨sr_38, List.forall_mem_cons.mpr ⟨sr_39, List.forall_mem_cons.mpr ⟨sr_40, List.forall_mem_cons.mpr ⟨sr_41, List.forall_mem_cons.mpr ⟨sr_42, List.forall_mem_cons.mpr ⟨sr_43, List.forall_mem_cons.mpr ⟨sr_44, List.forall_mem_cons.mpr ⟨sr_45, List.forall_mem_cons.mpr ⟨sr_46, List.forall_mem_cons.mpr ⟨sr_47, List.forall_mem_cons.mpr ⟨sr_48, List.forall_mem_cons.mpr ⟨sr_49, List.forall_mem_cons.mpr ⟨sr_50, List.forall_mem_cons.mpr ⟨sr_51, List.forall_mem_cons.mpr ⟨sr_52, List.forall_mem_cons.mpr ⟨sr_53, List.forall_mem_cons.mpr ⟨sr_54, List.forall_mem_cons.mpr ⟨sr_55, List.forall_mem_cons.mpr ⟨sr_56, List.forall_mem_cons.mpr ⟨sr_57, List.forall_mem_cons.mpr ⟨sr_58, List.forall_mem_cons.mpr ⟨sr_59, List.forall_mem_cons.mpr ⟨sr_60, List.forall_mem_cons.mpr ⟨sr_61, List.forall_mem_cons.mpr ⟨sr_62, List.forall_mem_cons.mpr ⟨sr_63, List.forall_mem_cons.mpr ⟨sr_64, fun _ h => absurd h List.not_mem_nil⟩⟩⟩⟩⟩⟩⟩⟩⟩⟩⟩⟩⟩⟩⟩⟩⟩⟩⟩⟩⟩⟩⟩⟩⟩⟩⟩⟩⟩⟩⟩⟩⟩⟩⟩⟩⟩⟩⟩⟩⟩⟩⟩⟩⟩⟩⟩⟩⟩⟩⟩⟩⟩⟩⟩⟩⟩⟩⟩⟩⟩⟩⟩⟩⟩
theorem sl_all : ∀ q ∈ jsr, q.2.2.2.length < 100 := by decide +kernel
section ST
variable {s : State} {b Lq : Nat} {xs : Nat → Int32}
theorem arr_w {ty : FieldType} {A : Array Value} (h : (Cond.arrayClass ty).before A s = true) : ∃ cA : ClassId, ArrOfT s cA ty ∧ s.vm.findClass ("[" ++ ty.toString) = some cA := by
  obtain ⟨c, k, comp, h1, h2, h3⟩ := Cond.arrayClass_spec h
  exact ⟨c, fun n z => ⟨fun k h => (by cases h), k, h2, comp, h3⟩, h1⟩
theorem arr_o {C : String} {A : Array Value} (h : (Cond.arrayOver (.object C)).before A s = true) : ∃ cA : ClassId, ArrOfT s cA (.object C) ∧ s.vm.findClass ("[" ++ (FieldType.object C).toString) = some cA ∧ va_RA s cA (.object C) := by
  obtain ⟨comp, c, k, h1, -, h3, h4, h5⟩ := Cond.arrayOver_spec h
  exact ⟨c, fun n z => ⟨fun k h => (by cases h), k, h3, comp, h4⟩, h5, k, comp, h3, h4, h1, h5⟩
theorem str_w {A : Array Value} {q : String × Nat × String × List Int32} (hq : q ∈ jsr) (hts : ∀ c ∈ lw_tbl, c.before A s = true) (hn : ∀ c ∈ flatC narrow_1, c.before A s = true) : ∃ y : Nat × Nat, vk_R q.1 q.2.1 q.2.2.1 y.1 s ∧ va_O "java/lang/String" y.1 (fun q => s.heap.size ≤ q) s s.heap ∧ va_OF "java/lang/String" "coder" "B" (.int 0) y.1 (fun q => s.heap.size ≤ q) s s.heap ∧ va_OF "java/lang/String" "value" "[B" (.ref y.2) y.1 (fun q => s.heap.size ≤ q) s s.heap ∧ va_T .byte y.2 q.2.2.2.length (fun j => .int (q.2.2.2.getD j 0)) (fun q => s.heap.size ≤ q) s s.heap := by
  have hw : ∀ c ∈ strW q, c.before A s = true := fun c hc => hn c (str_mem hq hc)
  have z0' : ∀ i : Nat, i < 1 → i = 0 := fun i hi => by omega
  obtain ⟨adK, adV, hS, hE⟩ := vk_Sof (args := A) (s := s) (N := 1) (tm := fun _ => .string q.1 q.2.1) (len := [q.2.2.2.length]) (byt := [q.2.2.2]) (A := fun a => s.heap.size ≤ a)
    (fun i hi => by rw [z0' i hi]; exact Nat.lt_trans (sl_all q hq) (by decide))
    (fun i hi => hw _ (by simp [strW])) (fun i hi => hw _ (by simp [strW])) (fun i hi => hw _ (by simp [strW]))
    (fun i hi => by rw [z0' i hi]; exact hw _ (by simp [strW]))
    (fun i hi j hj => by
      rw [z0' i hi] at hj ⊢
      refine hw _ (List.mem_append_right _ (List.mem_map.mpr ⟨j, List.mem_range.mpr hj, rfl⟩)))
    (fun i j hi hj hne => absurd ((z0' i hi).trans (z0' j hj).symm) hne) (fun a ha h => Nat.not_le.mpr ha h)
  obtain ⟨s1, s2, s3, s4⟩ := hS.1 0 (by decide)
  exact ⟨(adK 0, adV 0), vk_R.of (hts _ (sr_all q hq)) (hE 0 (by decide)), s1, s2, s3, s4⟩
theorem kn_w {A : Array Value} (hts : ∀ c ∈ lw_tbl, c.before A s = true) : ∀ ci : Nat, ∃ y : ClassId × (Nat → Nat), ∀ q : vw_C, vwCl[ci]? = some q → u_Kn s q.1 q.2.1 q.2.2 y.1 y.2 := by
  have k : ∀ (ci n : Nat) (r : vw_C), jcl ci r → Cond.instantiable r.1 n ∈ lw_tbl → vwCl[ci]? = some r → ∃ y : ClassId × (Nat → Nat), ∀ q : vw_C, vwCl[ci]? = some q → u_Kn s q.1 q.2.1 q.2.2 y.1 y.2 := fun ci n r h1 h2 h3 => by
    obtain ⟨cC, iS, h⟩ := u_known hts h1.1 (hts _ h2)
    exact ⟨(cC, iS), fun q hq => by cases Option.some.inj (h3.symm.trans hq); exact h⟩
  intro ci
  match ci with
  | 0 => exact k 0 _ _ jclX0 itX0 rfl
  | 1 => exact k 1 _ _ jclX1 itX1 rfl
  | 2 => exact k 2 _ _ jclX2 itX2 rfl
  | 3 => exact k 3 _ _ jclX3 itX3 rfl
  | 4 => exact k 4 _ _ jclX4 itX4 rfl
  | 5 => exact k 5 _ _ jclX5 itX5 rfl
  | 6 => exact k 6 _ _ jclX6 itX6 rfl
  | 7 => exact k 7 _ _ jclX7 itX7 rfl
  | 8 => exact k 8 _ _ jclX8 itX8 rfl
  | 9 => exact k 9 _ _ jclX9 itX9 rfl
  | 10 => exact k 10 _ _ jclX10 itX10 rfl
  | 11 => exact k 11 _ _ jclX11 itX11 rfl
  | n + 12 => exact ⟨(0, fun _ => 0), fun q hq => by
      have e : vwCl[n + 12]? = none := List.getElem?_eq_none (by show 12 ≤ n + 12; omega)
      rw [e] at hq; cases hq⟩
theorem ar_w {A : Array Value} (hts : ∀ c ∈ lw_tbl, c.before A s = true) : ∀ t : Nat, ∃ cA : ClassId, 1 ≤ t → t ≤ 6 → ArrOfT s cA (jaty t) ∧ s.vm.findClass ("[" ++ (jaty t).toString) = some cA ∧ va_RA s cA (jaty t) := by
  intro t
  match t with
  | 0 => exact ⟨0, fun h => absurd h (by decide)⟩
  | 1 => obtain ⟨c, h1, h2⟩ := arr_w (hts _ ac_int); exact ⟨c, fun _ _ => ⟨h1, h2, h2⟩⟩
  | 2 => obtain ⟨c, h1, h2⟩ := arr_w (hts _ ac_byte); exact ⟨c, fun _ _ => ⟨h1, h2, h2⟩⟩
  | 3 => obtain ⟨c, h1, h2⟩ := arr_w (hts _ ac_boolean); exact ⟨c, fun _ _ => ⟨h1, h2, h2⟩⟩
  | 4 => obtain ⟨c, h1, h2⟩ := arr_w (hts _ ac_long); exact ⟨c, fun _ _ => ⟨h1, h2, h2⟩⟩
  | 5 => obtain ⟨c, h1, h2, h3⟩ := arr_o (C := "EbbIsland$Party") (hts _ (jm1 235 rfl)); exact ⟨c, fun _ _ => ⟨h1, h2, h3⟩⟩
  | 6 => obtain ⟨c, h1, h2, h3⟩ := arr_o (C := "java/lang/String") (hts _ (jm6 155 rfl)); exact ⟨c, fun _ _ => ⟨h1, h2, h3⟩⟩
  | n + 7 => exact ⟨0, fun _ h => absurd h (by omega)⟩
theorem js_w {A : Array Value} (hts : ∀ c ∈ lw_tbl, c.before A s = true) (hn : ∀ c ∈ flatC narrow_1, c.before A s = true) : ∀ i : Nat, ∃ y : Nat × Nat, ∀ q, jsr[i]? = some q → vk_R q.1 q.2.1 q.2.2.1 y.1 s ∧ va_O "java/lang/String" y.1 (fun q => s.heap.size ≤ q) s s.heap ∧ va_OF "java/lang/String" "coder" "B" (.int 0) y.1 (fun q => s.heap.size ≤ q) s s.heap ∧ va_OF "java/lang/String" "value" "[B" (.ref y.2) y.1 (fun q => s.heap.size ≤ q) s s.heap ∧ va_T .byte y.2 q.2.2.2.length (fun j => .int (q.2.2.2.getD j 0)) (fun q => s.heap.size ≤ q) s s.heap := by
  intro i
  cases hq : jsr[i]? with
  | none => exact ⟨(0, 0), fun q h => by cases h⟩
  | some q0 =>
    obtain ⟨y, h⟩ := str_w (List.mem_of_getElem? hq) hts hn
    exact ⟨y, fun q h2 => by cases h2; exact h⟩
set_option maxHeartbeats 2000000 in
theorem w_start (l : Launch) (hflags : l.flags = flags0) (hts : ∀ c ∈ lw_tbl, c.before #[Value.ref b] s = true) (hgv : (Jvm.Cond.and given_1 narrow_1).before #[Value.ref b] s = true) (hX : va_X b Lq xs s s.heap) (hb : b < s.heap.size) : ∃ w : jWD, w.1 = s ∧ w.2.2.2 997 = b ∧ jWok w l ∧ va_Nc eI eN w.1 ∧ jScr w Lq xs := by
  have hs := flat_of_before _ hgv
  have hn : ∀ c ∈ flatC narrow_1, c.before #[Value.ref b] s = true := fun c hc => hs c (List.mem_append_right _ hc)
  obtain ⟨D, hD⟩ := Classical.axiomOfChoice (kn_w hts)
  obtain ⟨C, hC⟩ := Classical.axiomOfChoice (ar_w hts)
  obtain ⟨Y, hY⟩ := Classical.axiomOfChoice (js_w hts hn)
  have hA : ∀ a : Nat, a < s.heap.size → ¬ s.heap.size ≤ a := fun a h1 h2 => Nat.not_le.mpr h1 h2
  have hcs : va_Z "java/lang/String" "COMPACT_STRINGS" "Z" (.int 1) (fun q => s.heap.size ≤ q) s s.heap := va_Zof (hts _ (jm4 29 rfl)) (hts _ (jm1 19 rfl)) (Cond.eq_int (hn (.eq (.static "java/lang/String" "COMPACT_STRINGS" "Z") (.int 1)) (by decide +kernel)) rfl) hA
  obtain ⟨v, hv, hvr⟩ := Cond.isRef_spec (hn (.isRef (.static "jdk/internal/util/Preconditions" "SIOOBE_FORMATTER" "Ljava/util/function/BiFunction;")) (by decide +kernel))
  have hsf : ∃ fa : Nat, va_Z "jdk/internal/util/Preconditions" "SIOOBE_FORMATTER" "Ljava/util/function/BiFunction;" .null (fun q => s.heap.size ≤ q) s s.heap ∨ va_Z "jdk/internal/util/Preconditions" "SIOOBE_FORMATTER" "Ljava/util/function/BiFunction;" (.ref fa) (fun q => s.heap.size ≤ q) s s.heap := by
    have q := va_Zof (A := fun q => s.heap.size ≤ q) (hts _ (jm4 45 rfl)) (hts _ (jm1 21 rfl)) hv hA
    cases v with
    | null => exact ⟨0, Or.inl q⟩
    | ref a => exact ⟨a, Or.inr q⟩
    | int _ => cases hvr
    | long _ => cases hvr
    | float _ => cases hvr
    | double _ => cases hvr
    | retAddr _ => cases hvr
  obtain ⟨fa, hfa⟩ := hsf
  have hln : jsr.length = 65 := rfl
  refine ⟨(s, (fun c => (D c).1, fun c => (D c).2), C, fun i => if i < 500 then (Y i).1 else if i = 997 then b else if i = 998 then fa else (Y (i - 500)).2), rfl, rfl, ⟨⟨_, hts⟩, ⟨fun c q hq => hD c q hq, fun k q hq => by cases hq⟩, hC, ⟨?_, ?_⟩, ?_, fun i q hq => ?_, hcs, hfa⟩, ?_, hb, hX⟩
  · exact vx_Zqof (hts _ (jm3 199 rfl)) (hts _ (jm1 14 rfl)) (hn (.isRef (.static "java/lang/Throwable" "UNASSIGNED_STACK" "[Ljava/lang/StackTraceElement;")) (by decide +kernel)) hA
  · exact vx_Zqof (hts _ (jm3 201 rfl)) (hts _ (jm1 14 rfl)) (hn (.isRef (.static "java/lang/Throwable" "SUPPRESSED_SENTINEL" "Ljava/util/List;")) (by decide +kernel)) hA
  · unfold Launch.stackTraces
    rw [hflags]
    decide +kernel
  · have hi : i < 65 := by
      rw [← hln]
      exact (List.getElem?_eq_some_iff.mp hq).1
    have e1 : (if i < 500 then (Y i).1 else if i = 997 then b else if i = 998 then fa else (Y (i - 500)).2) = (Y i).1 := if_pos (by omega)
    have e2 : (if 500 + i < 500 then (Y (500 + i)).1 else if 500 + i = 997 then b else if 500 + i = 998 then fa else (Y (500 + i - 500)).2) = (Y i).2 := by
      rw [if_neg (by omega), if_neg (by omega), if_neg (by omega), show 500 + i - 500 = i by omega]
    have h := hY i q hq
    rw [← e1, ← e2] at h
    exact h
  · exact va_Nc.of (hn (.not (.castable "java/lang/IllegalArgumentException" "java/util/NoSuchElementException")) (by decide +kernel))
end ST
