/-! THE START: what is known of the constants -/
def strW (q : String × Nat × String × List Int32) : List Cond := [.exactly (.string q.1 q.2.1) "java/lang/String", .eq (.field (.string q.1 q.2.1) "java/lang/String" "coder" "B") (.int 0), .arrayOf (.field (.string q.1 q.2.1) "java/lang/String" "value" "[B") .byte, .eq (.length (.field (.string q.1 q.2.1) "java/lang/String" "value" "[B")) (.int (Int32.ofNat q.2.2.2.length))] ++ (List.range q.2.2.2.length).map (fun j => .eq (.elem (.field (.string q.1 q.2.1) "java/lang/String" "value" "[B") (.int (Int32.ofNat j))) (.int (q.2.2.2.getD j 0)))
def isSE (c : Cond) : Bool := match c with
  | .eq (.string _ _) (.string _ _) => true
  | _ => false
theorem str_in : ((flatC narrow_1).drop 35).filter (fun c => !isSE c) = jsr.flatMap strW := by decide +kernel
theorem str_mem {q : String × Nat × String × List Int32} {c : Cond} (hq : q ∈ jsr) (hc : c ∈ strW q) : c ∈ flatC narrow_1 := by
  have h : c ∈ jsr.flatMap strW := List.mem_flatMap.mpr ⟨q, hq, hc⟩
  rw [← str_in] at h
  exact List.mem_of_mem_drop (List.mem_filter.mp h).1
