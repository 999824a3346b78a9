/-! the law's cases: questions -/
section CQ
variable {w : jWD} {l : Launch} {n : Nat} {I : Nat → Nat → Int32} {L : Nat → Nat → Int64} {R : Nat → Nat → Option Nat}
set_option maxHeartbeats 1000000 in
theorem kL_cell (hW : jWok w l) (hV : INV I L R) (x1 x2 : Int32) : jCas w l mL_cell mX11_cell [.int x1, .int x2] (fun r => r.toInt64) n I L R := by
  obtain ⟨h, g, W, H, np, len, b, s, tn, tp, hv⟩ := hV
  have hRS := hv.rs
  by_cases hg : ltQ x1 (W * H) = true ∧ 0 ≤ x2.toInt ∧ x2.toInt ≤ 1
  · obtain ⟨g1, g2a, g2b⟩ := hg
    obtain ⟨y1, rfl, h1⟩ := ltQ_n g1
    obtain ⟨y2, h2, rfl⟩ := kn_of (c := 1) ⟨g2a, g2b⟩
    exact case_Q (F := fun J => cellA J W y1 y2) hv (by decide) (by decide) (gL_cell hW (jQ_D (tX10_cell hW hRS hv.cx h1 h2 (fun q => hv.pt.2 y1 h1 q))) jQD_q) (fun J M' _ iv => tX11_cell hW hRS iv.ri h1 h2) (fun J hJ => by rw [← hJ, h_cellA] <;> rfl)
  · exact case_B hv (by decide) (by decide) (by decide) (bL_cell hW (tX10_cellF hW hRS hv.cx x1 x2 hg)) (fun n' => tX11_cellF hW hRS hv.ri x1 x2 hg)
set_option maxHeartbeats 1000000 in
theorem kL_quick (hW : jWok w l) (hV : INV I L R) (x1 x2 : Int32) : jCas w l mL_quick mX11_quick [.int x1, .int x2] (fun r => if r = 0 then 0 else 1) n I L R := by
  obtain ⟨h, g, W, H, np, len, b, s, tn, tp, hv⟩ := hV
  have hRS := hv.rs
  by_cases hg : ltQ x1 (W * H) = true ∧ dayQ x2 = true
  · obtain ⟨g1, g2⟩ := hg
    obtain ⟨y1, rfl, h1⟩ := ltQ_n g1
    obtain ⟨y2, rfl, h2⟩ := dayQ_n g2
    have h2 : y2 ≤ 40 := by omega
    exact case_Q (F := fun J => jb (qq J W H y2 y1)) hv (by decide) (by decide) (gL_quick hW (jQ_D (tX10_quick hW hRS hv.cx h1 h2)) jQD_q) (fun J M' _ iv => tX11_quick hW hRS iv.ri h1 h2) (fun J hJ => by rw [← hJ, h_qq] <;> rfl)
  · exact case_B hv (by decide) (by decide) (by decide) (bL_quick hW (tX10_quickF hW hRS hv.cx x1 x2 hg)) (fun n' => tX11_quickF hW hRS hv.ri x1 x2 hg)
set_option maxHeartbeats 1000000 in
theorem kL_water (hW : jWok w l) (hV : INV I L R) (x1 x2 : Int32) : jCas w l mL_water mX11_water [.int x1, .int x2] (fun r => r.toInt64) n I L R := by
  obtain ⟨h, g, W, H, np, len, b, s, tn, tp, hv⟩ := hV
  have hRS := hv.rs
  by_cases hg : dayQ x1 = true ∧ tickQ x2 = true
  · obtain ⟨g1, g2⟩ := hg
    obtain ⟨y1, rfl, h1⟩ := dayQ_n g1
    have h1 : y1 ≤ 40 := by omega
    obtain ⟨y2, rfl, h2⟩ := tickQ_n g2
    exact case_Q (F := fun J => nI (wlev (J 1082) len y1 y2 (J 1072 7))) hv (by decide) (by decide) (gL_water hW (jQ_D (tX10_water hW hRS hv.cx h1 h2)) jQD_q) (fun J M' _ iv => tX11_water hW hRS iv.ri h1 h2) (fun J hJ => by rw [← hJ] <;> rfl)
  · exact case_B hv (by decide) (by decide) (by decide) (bL_water hW (tX10_waterF hW hRS hv.cx x1 x2 hg)) (fun n' => tX11_waterF hW hRS hv.ri x1 x2 hg)
set_option maxHeartbeats 1000000 in
theorem kL_may (hW : jWok w l) (hV : INV I L R) (x1 x2 x3 x4 : Int32) : jCas w l mL_may mX11_may [.int x1, .int x2, .int x3, .int x4] (fun r => if r = 0 then 0 else 1) n I L R := by
  obtain ⟨h, g, W, H, np, len, b, s, tn, tp, hv⟩ := hV
  have hRS := hv.rs
  by_cases hg : ltQ x1 np = true ∧ ltQ x2 (W * H) = true ∧ dayQ x3 = true ∧ tickQ x4 = true
  · obtain ⟨g1, g2, g3, g4⟩ := hg
    obtain ⟨y1, rfl, h1⟩ := ltQ_n g1
    obtain ⟨y2, rfl, h2⟩ := ltQ_n g2
    obtain ⟨y3, rfl, h3⟩ := dayQ_n g3
    have h3 : y3 ≤ 40 := by omega
    obtain ⟨y4, rfl, h4⟩ := tickQ_n g4
    exact case_Q (F := fun J => jb (mP J W H len y3 (J 1072 7) y1 y2 y4)) hv (by decide) (by decide) (gL_may hW (jQ_D (tX10_may hW hRS hv.cx h1 h2 h3 h4)) jQD_q) (fun J M' _ iv => tX11_may hW hRS iv.ri h1 h2 h3 h4) (fun J hJ => by rw [← hJ, h_mP] <;> rfl)
  · exact case_B hv (by decide) (by decide) (by decide) (bL_may hW (tX10_mayF hW hRS hv.cx x1 x2 x3 x4 hg)) (fun n' => tX11_mayF hW hRS hv.ri x1 x2 x3 x4 hg)
set_option maxHeartbeats 1000000 in
theorem kL_starts (hW : jWok w l) (hV : INV I L R) (x1 x2 x3 : Int32) : jCas w l mL_starts mX11_starts [.int x1, .int x2, .int x3] (fun r => r.toInt64) n I L R := by
  obtain ⟨h, g, W, H, np, len, b, s, tn, tp, hv⟩ := hV
  have hRS := hv.rs
  by_cases hg : ltQ x1 np = true ∧ dayQ x2 = true ∧ 0 ≤ x3.toInt ∧ x3.toInt ≤ 3
  · obtain ⟨g1, g2, g3a, g3b⟩ := hg
    obtain ⟨y1, rfl, h1⟩ := ltQ_n g1
    obtain ⟨y2, rfl, h2⟩ := dayQ_n g2
    have h2 : y2 ≤ 40 := by omega
    obtain ⟨y3, h3, rfl⟩ := kn_of (c := 3) ⟨g3a, g3b⟩
    exact case_Q (F := fun J => stV (NS J W H len y2 (J 1072 7) y1 0) (arr J W H len y2 (J 1072 7) y1 0 0) y3) hv (by decide) (by decide) (gL_starts hW (jQ_D (tX10_starts hW hRS hv.cx h1 h2 h3)) jQD_q) (fun J M' _ iv => tX11_starts hW hRS iv.ri h1 h2 h3) (fun J hJ => by rw [← hJ]; simp only [h_NS, h_arr]; rfl)
  · exact case_B hv (by decide) (by decide) (by decide) (bL_starts hW (tX10_startsF hW hRS hv.cx x1 x2 x3 hg)) (fun n' => tX11_startsF hW hRS hv.ri x1 x2 x3 hg)
set_option maxHeartbeats 1000000 in
theorem kL_booked (hW : jWok w l) (hV : INV I L R) (x1 x2 : Int32) : jCas w l mL_booked mX11_booked [.int x1, .int x2] (fun r => r.toInt64) n I L R := by
  obtain ⟨h, g, W, H, np, len, b, s, tn, tp, hv⟩ := hV
  have hRS := hv.rs
  by_cases hg : ltQ x1 b = true ∧ 0 ≤ x2.toInt ∧ x2.toInt ≤ 3
  · obtain ⟨g1, g2a, g2b⟩ := hg
    obtain ⟨y1, rfl, h1⟩ := ltQ_n g1
    obtain ⟨y2, h2, rfl⟩ := kn_of (c := 3) ⟨g2a, g2b⟩
    exact case_Q (F := fun J => bookV J y1 y2) hv (by decide) (by decide) (gL_booked hW (jCD_D hv.cx (tX10_booked hW hRS hv.lb h1 h2)) jQD_q) (fun J M' _ iv => tX11_booked hW hRS iv.ri iv.rk h1 h2) (fun J hJ => by rw [← hJ]; exact (hR_b (by omega) (by omega) y1).symm)
  · exact case_B hv (by decide) (by decide) (by decide) (bL_booked hW (tX10_bookedF hW hRS hv.pb.1 hv.b12 x1 x2 hg)) (fun n' => tX11_bookedF hW hRS hv.ri x1 x2 hv.rk hg)
set_option maxHeartbeats 1000000 in
theorem kL_at (hW : jWok w l) (hV : INV I L R) (x1 x2 : Int32) : jCas w l mL_at mX11_at [.int x1, .int x2] (fun r => r.toInt64) n I L R := by
  obtain ⟨h, g, W, H, np, len, b, s, tn, tp, hv⟩ := hV
  have hRS := hv.rs
  by_cases hg : ltQ x1 b = true ∧ tickQ x2 = true
  · obtain ⟨g1, g2⟩ := hg
    obtain ⟨y1, rfl, h1⟩ := ltQ_n g1
    obtain ⟨y2, rfl, h2⟩ := tickQ_n g2
    exact case_Q (F := fun J => oI (pl J y1 y2)) hv (by decide) (by decide) (gL_at hW (jCD_D hv.cx (tX10_at hW hRS hv.lb h1 h2)) jQD_q) (fun J M' _ iv => tX11_at hW hRS iv.ri iv.rk h1 h2) (fun J hJ => by rw [← hJ, h_pl] <;> rfl)
  · exact case_B hv (by decide) (by decide) (by decide) (bL_at hW (tX10_atF hW hRS hv.pb.1 hv.b12 x1 x2 hg)) (fun n' => tX11_atF hW hRS hv.ri x1 x2 hv.rk hg)
set_option maxHeartbeats 1000000 in
theorem kL_crowded (hW : jWok w l) (hV : INV I L R) (x1 : Int32) : jCas w l mL_crowded mX11_crowded [.int x1] (fun r => r.toInt64) n I L R := by
  obtain ⟨h, g, W, H, np, len, b, s, tn, tp, hv⟩ := hV
  have hRS := hv.rs
  by_cases hg : dayQ x1 = true
  · have g1 := hg
    obtain ⟨y1, rfl, h1⟩ := dayQ_n g1
    have h1 : y1 ≤ 40 := by omega
    exact case_Q (F := fun J => oI (crw J W b y1 0)) hv (by decide) (by decide) (gL_crowded hW (jCD_D hv.cx (tX10_crowded hW hRS hv.cx hv.lb hv.pt.2 h1)) jQD_q) (fun J M' _ iv => tX11_crowded hW hRS iv.ri iv.rk h1) (fun J hJ => by rw [← hJ, h_crw] <;> rfl)
  · exact case_B hv (by decide) (by decide) (by decide) (bL_crowded hW (tX10_crowdedF hW hRS x1 hg)) (fun n' => tX11_crowdedF hW hRS hv.ri x1 hg)
set_option maxHeartbeats 1000000 in
theorem kL_leave (hW : jWok w l) (hV : INV I L R) (x1 : Int32) : jCas w l mL_leave mX11_leave [.int x1] (fun r => r.toInt64) n I L R := by
  obtain ⟨h, g, W, H, np, len, b, s, tn, tp, hv⟩ := hV
  have hRS := hv.rs
  by_cases hg : dayQ x1 = true
  · have g1 := hg
    obtain ⟨y1, rfl, h1⟩ := dayQ_n g1
    have h1 : y1 ≤ 40 := by omega
    exact case_Q (F := fun J => nI (lvN J W b y1 (thr J y1 b) 64)) hv (by decide) (by decide) (gL_leave hW (jCD_D hv.cx (tX10_leave hW hRS hv.cx hv.lb hv.pt.2 h1)) jQD_q) (fun J M' _ iv => tX11_leave hW hRS iv.ri iv.rk h1) (fun J hJ => by rw [← hJ, h_lvN, h_thr] <;> rfl)
  · exact case_B hv (by decide) (by decide) (by decide) (bL_leave hW (tX10_leaveF hW hRS x1 hg)) (fun n' => tX11_leaveF hW hRS hv.ri x1 hg)
set_option maxHeartbeats 1000000 in
theorem kL_queue (hW : jWok w l) (hV : INV I L R) (x1 : Int32) : jCas w l mL_queue mX11_queue [.int x1] (fun r => r.toInt64) n I L R := by
  obtain ⟨h, g, W, H, np, len, b, s, tn, tp, hv⟩ := hV
  have hRS := hv.rs
  by_cases hg : ltQ x1 np = true
  · have g1 := hg
    obtain ⟨y1, rfl, h1⟩ := ltQ_n g1
    exact case_Q (F := fun J => oI (fnd (qAt J W H np len y1) 41)) hv (by decide) (by decide) (gL_queue hW (jQ_D (tX10_queue hW hRS hv.cx h1)) jQD_q) (fun J M' _ iv => tX11_queue hW hRS iv.ri h1) (fun J hJ => by rw [← hJ, h_qAt] <;> rfl)
  · exact case_B hv (by decide) (by decide) (by decide) (bL_queue hW (tX10_queueF hW hRS hv.cx x1 hg)) (fun n' => tX11_queueF hW hRS hv.ri x1 hg)
set_option maxHeartbeats 1000000 in
theorem kL_heir (hW : jWok w l) (hV : INV I L R) (x1 : Int32) : jCas w l mL_heir mX11_heir [.int x1] (fun r => r.toInt64) n I L R := by
  obtain ⟨h, g, W, H, np, len, b, s, tn, tp, hv⟩ := hV
  have hRS := hv.rs
  by_cases hg : ltQ x1 np = true
  · have g1 := hg
    obtain ⟨y1, rfl, h1⟩ := ltQ_n g1
    exact case_Q (F := fun J => heirV J W H np len y1) hv (by decide) (by decide) (gL_heir hW (jQ_D (tX10_heir hW hRS hv.cx h1)) jQD_q) (fun J M' _ iv => tX11_heir hW hRS iv.ri h1) (fun J hJ => by rw [← hJ, h_heirV] <;> rfl)
  · exact case_B hv (by decide) (by decide) (by decide) (bL_heir hW (tX10_heirF hW hRS hv.cx x1 hg)) (fun n' => tX11_heirF hW hRS hv.ri x1 hg)
set_option maxHeartbeats 1000000 in
theorem kL_motions (hW : jWok w l) (hV : INV I L R) (x1 : Int32) : jCas w l mL_motions mX11_motions [.int x1] (fun r => r.toInt64) n I L R := by
  obtain ⟨h, g, W, H, np, len, b, s, tn, tp, hv⟩ := hV
  have hRS := hv.rs
  by_cases hg : 0 ≤ x1.toInt ∧ x1.toInt ≤ 1
  · obtain ⟨g1a, g1b⟩ := hg
    obtain ⟨y1, h1, rfl⟩ := kn_of (c := 1) ⟨g1a, g1b⟩
    exact case_Q (F := fun J => (if y1 = 0 then nI (cntN (ftM J W H s) 25) else oI (fnd (ftM J W H s) 25))) hv (by decide) (by decide) (gL_motions hW (jQ_D (tX10_motions hW hRS hv.cx hv.lsk h1)) jQD_q) (fun J M' _ iv => tX11_motions hW hRS iv.ri iv.rsk h1) (fun J hJ => by simp only [← hJ, h_ftM])
  · exact case_B hv (by decide) (by decide) (by decide) (bL_motions hW (tX10_motionsF hW hRS x1 hg)) (fun n' => tX11_motionsF hW hRS hv.ri x1 hg)
set_option maxHeartbeats 1000000 in
theorem kL_late (hW : jWok w l) (hV : INV I L R) (x1 x2 x3 : Int32) : jCas w l mL_late mX11_late [.int x1, .int x2, .int x3] (fun r => r.toInt64) n I L R := by
  obtain ⟨h, g, W, H, np, len, b, s, tn, tp, hv⟩ := hV
  have hRS := hv.rs
  by_cases hg : ltQ x1 np = true ∧ dayQ x2 = true ∧ tickQ x3 = true
  · obtain ⟨g1, g2, g3⟩ := hg
    obtain ⟨y1, rfl, h1⟩ := ltQ_n g1
    obtain ⟨y2, rfl, h2⟩ := dayQ_n g2
    have h2 : y2 ≤ 40 := by omega
    obtain ⟨y3, rfl, h3⟩ := tickQ_n g3
    exact case_Q (F := fun J => (if NS J W H len y2 (J 1072 7) y1 0 ≤ y3 then -1 else nI (NS J W H len y2 (J 1072 7) y1 0 - 1 - y3))) hv (by decide) (by decide) (gL_late hW (jQ_D (tX10_late hW hRS hv.cx h1 h2 h3)) jQD_q) (fun J M' _ iv => tX11_late hW hRS iv.ri h1 h2 h3) (fun J hJ => by rw [← hJ]; simp only [h_NS]; rfl)
  · exact case_B hv (by decide) (by decide) (by decide) (bL_late hW (tX10_lateF hW hRS hv.cx x1 x2 x3 hg)) (fun n' => tX11_lateF hW hRS hv.ri x1 x2 x3 hg)
set_option maxHeartbeats 1000000 in
theorem kL_vigil (hW : jWok w l) (hV : INV I L R) (x1 x2 x3 x4 : Int32) : jCas w l mL_vigil mX11_vigil [.int x1, .int x2, .int x3, .int x4] (fun r => r.toInt64) n I L R := by
  obtain ⟨h, g, W, H, np, len, b, s, tn, tp, hv⟩ := hV
  have hRS := hv.rs
  by_cases hg : ltQ x1 np = true ∧ dayQ x2 = true ∧ tickQ x3 = true ∧ 0 ≤ x4.toInt ∧ x4.toInt ≤ 3
  · obtain ⟨g1, g2, g3, g4a, g4b⟩ := hg
    obtain ⟨y1, rfl, h1⟩ := ltQ_n g1
    obtain ⟨y2, rfl, h2⟩ := dayQ_n g2
    have h2 : y2 ≤ 40 := by omega
    obtain ⟨y3, rfl, h3⟩ := tickQ_n g3
    obtain ⟨y4, h4, rfl⟩ := kn_of (c := 3) ⟨g4a, g4b⟩
    exact case_Q (F := fun J => nI (vgV (pfx J 4) (vgC J (fun f => arr J W H len y2 (J 1072 7) y1 f y3) 4) (vgS J (fun f => arr J W H len y2 (J 1072 7) y1 f y3) y3 4) y4)) hv (by decide) (by decide) (gL_vigil hW (jQ_D (tX10_vigil hW hRS hv.cx h1 h2 h3 h4)) jQD_q) (fun J M' _ iv => tX11_vigil hW hRS iv.ri h1 h2 h3 h4) (fun J hJ => by rw [← hJ]; simp only [h_pfx, h_vgC, h_vgS, h_arr]; rfl)
  · exact case_B hv (by decide) (by decide) (by decide) (bL_vigil hW (tX10_vigilF hW hRS hv.cx x1 x2 x3 x4 hg)) (fun n' => tX11_vigilF hW hRS hv.ri x1 x2 x3 x4 hg)
set_option maxHeartbeats 1000000 in
theorem kL_rents (hW : jWok w l) (hV : INV I L R) (x1 x2 x3 : Int32) : jCas w l mL_rents mX11_rents [.int x1, .int x2, .int x3] (fun r => r.toInt64) n I L R := by
  obtain ⟨h, g, W, H, np, len, b, s, tn, tp, hv⟩ := hV
  have hRS := hv.rs
  by_cases hg : dayQ x1 = true ∧ tickQ x2 = true ∧ 0 ≤ x3.toInt ∧ x3.toInt ≤ 1
  · obtain ⟨g1, g2, g3a, g3b⟩ := hg
    obtain ⟨y1, rfl, h1⟩ := dayQ_n g1
    have h1 : y1 ≤ 40 := by omega
    obtain ⟨y2, rfl, h2⟩ := tickQ_n g2
    obtain ⟨y3, h3, rfl⟩ := kn_of (c := 1) ⟨g3a, g3b⟩
    exact case_Q (F := fun J => rntV (byK J W H len y1 y2 1) (byK J W H len y1 y2 2) np y3) hv (by decide) (by decide) (gL_rents hW (tX10_rents hW hRS hv.cx h1 h2 h3) jQD_q) (fun J M' _ iv => tX11_rents hW hRS iv.ri h1 h2 h3) (fun J hJ => by rw [← hJ, h_byK] <;> rfl)
  · exact case_B hv (by decide) (by decide) (by decide) (bL_rents hW (tX10_rentsF hW hRS hv.cx x1 x2 x3 hg)) (fun n' => tX11_rentsF hW hRS hv.ri x1 x2 x3 hg)
set_option maxHeartbeats 1000000 in
theorem kL_warning (hW : jWok w l) (hV : INV I L R) (x1 x2 x3 : Int32) : jCas w l mL_warning mX11_warning [.int x1, .int x2, .int x3] (fun r => r.toInt64) n I L R := by
  obtain ⟨h, g, W, H, np, len, b, s, tn, tp, hv⟩ := hV
  have hRS := hv.rs
  by_cases hg : ltQ x1 np = true ∧ dayQ x2 = true ∧ tickQ x3 = true
  · obtain ⟨g1, g2, g3⟩ := hg
    obtain ⟨y1, rfl, h1⟩ := ltQ_n g1
    obtain ⟨y2, rfl, h2⟩ := dayQ_n g2
    have h2 : y2 ≤ 40 := by omega
    obtain ⟨y3, rfl, h3⟩ := tickQ_n g3
    exact case_Q (F := fun J => oI (fnd (fun v => decide (arr J W H len y2 (nI v) y1 0 y3 = 1000)) 10)) hv (by decide) (by decide) (gL_warning hW (jQ_D (tX10_warning hW hRS hv.cx h1 h2 h3)) jQD_q) (fun J M' _ iv => tX11_warning hW hRS iv.ri h1 h2 h3) (fun J hJ => by rw [← hJ, h_arr] <;> rfl)
  · exact case_B hv (by decide) (by decide) (by decide) (bL_warning hW (tX10_warningF hW hRS hv.cx x1 x2 x3 hg)) (fun n' => tX11_warningF hW hRS hv.ri x1 x2 x3 hg)
set_option maxHeartbeats 1000000 in
theorem kL_party (hW : jWok w l) (hV : INV I L R) (x1 x2 : Int32) : jCas w l mL_party mX11_party [.int x1, .int x2] (fun r => r.toInt64) n I L R := by
  obtain ⟨h, g, W, H, np, len, b, s, tn, tp, hv⟩ := hV
  have hRS := hv.rs
  by_cases hg : ltQ x1 np = true ∧ 0 ≤ x2.toInt ∧ x2.toInt ≤ 5
  · obtain ⟨y1, rfl, h1⟩ := ltQ_n hg.1
    have e : (cN x2 : Int) = x2.toInt := Int.toNat_of_nonneg hg.2.1
    have e2 := hg.2.2
    exact case_Q (F := fun J => partyV J y1 (cN x2)) hv (by decide) (by decide) (gL_party hW (jQ_D (tX10_party hW hRS hv.cx x2 h1 hg.2)) jQD_q) (fun J M' _ iv => tX11_party hW hRS iv.ri x2 h1 hg.2) (fun J hJ => by rw [← hJ]; exact (congrFun (hR_kp J _ (by omega) (by omega)) y1).symm)
  · exact case_B hv (by decide) (by decide) (by decide) (bL_party hW (tX10_partyF hW hRS hv.cx x1 x2 hg)) (fun n' => tX11_partyF hW hRS hv.ri x1 x2 hg)
set_option maxHeartbeats 1000000 in
theorem kL_count (hW : jWok w l) (hV : INV I L R) (x1 : Int32) : jCas w l mL_count mX11_count [.int x1] (fun r => r.toInt64) n I L R := by
  obtain ⟨h, g, W, H, np, len, b, s, tn, tp, hv⟩ := hV
  have hRS := hv.rs
  by_cases hg : cntG x1 = true
  · exact case_Q (dX := 2) (F := fun J => cntV J (cN x1)) hv (by decide) (by decide) (gL_count hW (jCD_D hv.cx (tX10_count hW hRS hv.cx (hv.pf.1.trans hv.pf.2.1.symm) (hv.pb.1.trans hv.pb.2.1.1.symm) (hv.ps.1.trans hv.ps.2.1.1.symm) hv.pc x1 hg)) jQD_q) (fun J M' _ iv => by
      have q := tX11_count (n := n) (I := J) (L := M') (R := R) hW hRS x1
      rw [if_pos hg, if_pos hg] at q
      exact jCD_s q) (fun J hJ => by rw [← hJ, h_cntV])
  · exact case_B (dX := 2) (z := 0) hv (by decide) (by decide) (by decide) (bL_count hW (tX10_countF hW hRS x1 hg)) (fun n' => by
      have q := tX11_count (n := n') (I := I) (L := L) (R := R) hW hRS x1
      rw [if_neg hg, if_neg hg] at q
      exact q)
set_option maxHeartbeats 1000000 in
theorem kL_buried (hW : jWok w l) (hV : INV I L R) (x1 : Int32) : jCas w l mL_buried mX11_buried [.int x1] (fun r => r.toInt64) n I L R := by
  obtain ⟨h, g, W, H, np, len, b, s, tn, tp, hv⟩ := hV
  have hRS := hv.rs
  obtain ⟨z, z1, z2, z3⟩ := hv.pd
  by_cases hg : ltQ x1 np = true ∧ z = true
  · obtain ⟨g1, rfl⟩ := hg
    obtain ⟨y1, rfl, h1⟩ := ltQ_n g1
    exact case_Q (F := fun J => J 1102 y1) hv (by decide) (by decide) (gL_buried hW (jCD_D hv.cx (tX10_buried hW hRS hv.cx z1 h1)) jQD_q) (fun J M' hJ iv => tX11_buried hW hRS iv.ri ((congrFun (congrFun hJ 1069) 49).trans z2) h1) (fun J hJ => (congrFun (congrFun hJ 1102) y1).trans (z3 rfl y1 h1).symm)
  · exact case_B hv (by decide) (by decide) (by decide) (bL_buried hW (tX10_buriedF hW hRS hv.cx x1 z1 hg)) (fun n' => tX11_buriedF hW hRS hv.ri x1 z2 hg)
set_option maxHeartbeats 1000000 in
theorem kL_met (hW : jWok w l) (hNc : va_Nc eI eN w.1) (hV : INV I L R) (x1 x2 : Int32) : jCas w l mL_met mX11_met [.int x1, .int x2] (fun r => r.toInt64) n I L R := by
  obtain ⟨h, g, W, H, np, len, b, s, tn, tp, hv⟩ := hV
  have hRS := hv.rs
  by_cases hg : ltQ x1 b = true ∧ ltQ x2 b = true
  · obtain ⟨g1, g2⟩ := hg
    obtain ⟨y1, rfl, h1⟩ := ltQ_n g1
    obtain ⟨y2, rfl, h2⟩ := ltQ_n g2
    by_cases he : y1 = y2
    · subst he
      exact case_B hv (by decide) (by decide) (by decide) (b2L_met hW hNc (tX10_metF2 hW hRS hv.pb.1 hv.b12 h1)) (fun n' => tX11_metF2 hW hRS hv.ri hv.rk h1)
    · exact case_Q (F := fun J => oI (mt J W y1 y2 0)) hv (by decide) (by decide) (gL_met hW (jCD_D hv.cx (tX10_met hW hRS hv.cx hv.lb h1 h2 he)) jQD_q) (fun J M' _ iv => tX11_met hW hRS iv.ri iv.rk h1 h2 he) (fun J hJ => by rw [← hJ, h_mt])
  · exact case_B hv (by decide) (by decide) (by decide) (bL_met hW (tX10_metF hW hRS hv.pb.1 hv.b12 x1 x2 hg)) (fun n' => tX11_metF hW hRS hv.ri x1 x2 hv.rk hg)
set_option maxHeartbeats 1000000 in
theorem kL_costs (hW : jWok w l) (hNc : va_Nc eI eN w.1) (hV : INV I L R) (x1 x2 x3 x4 : Int32) : jCas w l mL_costs mX11_costs [.int x1, .int x2, .int x3, .int x4] (fun r => r.toInt64) n I L R := by
  obtain ⟨h, g, W, H, np, len, b, s, tn, tp, hv⟩ := hV
  have hRS := hv.rs
  by_cases hg : ltQ x1 np = true ∧ dayQ x2 = true ∧ tickQ x3 = true
  · obtain ⟨g1, g2, g3⟩ := hg
    obtain ⟨y1, rfl, h1⟩ := ltQ_n g1
    obtain ⟨y2, rfl, h2⟩ := dayQ_n g2
    obtain ⟨y3, rfl, h3⟩ := tickQ_n g3
    have h2 : y2 ≤ 40 := by omega
    by_cases he : 0 ≤ x4.toInt ∧ x4.toInt ≤ 95 - y3
    · have hl : ∃ y4 : Nat, y3 + y4 < 96 ∧ x4 = nI y4 := ⟨cN x4, by have e : (cN x4 : Int) = x4.toInt := Int.toNat_of_nonneg he.1; omega, nI_cN (by omega)⟩
      obtain ⟨y4, h4, rfl⟩ := hl
      exact case_Q (F := fun J => (if arr J W H len y2 (J 1072 7) y1 0 y3 = 1000 ∨ arr J W H len y2 (J 1072 7) y1 0 (y3 + y4) = 1000 then -1 else nI (arr J W H len y2 (J 1072 7) y1 0 (y3 + y4)) - nI (arr J W H len y2 (J 1072 7) y1 0 y3))) hv (by decide) (by decide) (gL_costs hW (jQ_D (tX10_costs hW hRS hv.cx h1 h2 h3 h4)) jQD_q) (fun J M' _ iv => tX11_costs hW hRS iv.ri h1 h2 h3 h4) (fun J hJ => by rw [← hJ]; simp only [h_arr]; rfl)
    · exact case_B hv (by decide) (by decide) (by decide) (b2L_costs hW hNc (tX10_costsF2 hW hRS hv.cx x4 h1 h2 h3 he)) (fun n' => tX11_costsF2 hW hRS hv.ri x4 h1 h2 h3 he)
  · exact case_B hv (by decide) (by decide) (by decide) (bL_costs hW (tX10_costsF hW hRS hv.cx x1 x2 x3 x4 hg)) (fun n' => tX11_costsF hW hRS hv.ri x1 x2 x3 x4 hg)
set_option maxHeartbeats 1000000 in
theorem kL_fogs (hW : jWok w l) (hNc : va_Nc eI eN w.1) (hV : INV I L R) (x1 x2 x3 x4 : Int32) : jCas w l mL_fogs mX11_fogs [.int x1, .int x2, .int x3, .int x4] (fun r => r.toInt64) n I L R := by
  obtain ⟨h, g, W, H, np, len, b, s, tn, tp, hv⟩ := hV
  have hRS := hv.rs
  by_cases hg : ltQ x1 np = true ∧ tickQ x2 = true
  · obtain ⟨g1, g2⟩ := hg
    obtain ⟨y1, rfl, h1⟩ := ltQ_n g1
    obtain ⟨y2, rfl, h2⟩ := tickQ_n g2
    by_cases he : 0 ≤ x4.toInt ∧ x4.toInt ≤ 40
    · obtain ⟨y4, h4, rfl⟩ := kn_of (c := 40) he
      exact case_Q (F := fun J => nI (cntN (fgT J W H len y1 y2 x3) y4)) hv (by decide) (by decide) (gL_fogs hW (jQ_D (tX10_fogs hW hRS hv.cx x3 h1 h2 h4)) jQD_q) (fun J M' _ iv => tX11_fogs hW hRS iv.ri x3 h1 h2 h4) (fun J hJ => by rw [← hJ, h_fgT])
    · exact case_B hv (by decide) (by decide) (by decide) (b2L_fogs hW hNc (tX10_fogsF2 hW hRS hv.cx x3 x4 h1 h2 he)) (fun n' => tX11_fogsF2 hW hRS hv.ri x3 x4 h1 h2 he)
  · exact case_B hv (by decide) (by decide) (by decide) (bL_fogs hW (tX10_fogsF hW hRS hv.cx x1 x2 x3 x4 hg)) (fun n' => tX11_fogsF hW hRS hv.ri x1 x2 x3 x4 hg)
set_option maxHeartbeats 1000000 in
theorem kL_sound (hW : jWok w l) (hV : INV I L R) (x1 : Int32) (z : Bool) : jCasL w l mL_sound mX11_sound [.int x1, .int (jb z)] n I L R := by
  obtain ⟨h, g, W, H, np, len, b, s, tn, tp, hv⟩ := hV
  have hRS := hv.rs
  by_cases hg : dayQ x1 = true
  · obtain ⟨y1, rfl, h1⟩ := dayQ_n hg
    have h1 : y1 ≤ 40 := by omega
    exact case_QL (F := fun J => sndV (ftM J W H s) (fun m => qset J W H m y1) (allV W H) z) hv (by decide) (by decide) (gL_sound hW (jCD_L hv.cx (tX10_sound hW hRS hv.cx hv.lsk z h1)) jQD_l) (fun J M' _ iv => tX11_sound hW hRS iv.ri iv.rsk z h1) (fun J hJ => by rw [← hJ, h_ftM, h_qset])
  · exact case_BL hv (by decide) (by decide) (by decide) (bL_sound hW (tX10_soundF hW hRS x1 (jb z) hg)) (fun n' => tX11_soundF hW hRS x1 (jb z) hg)
set_option maxHeartbeats 1000000 in
theorem kL_way (hW : jWok w l) (hV : INV I L R) (x1 : Int32) : jCas w l mL_way mX11_way [.int x1] (fun r => r.toInt64) n I L R := by
  obtain ⟨h, g, W, H, np, len, b, s, tn, tp, hv⟩ := hV
  have hRS := hv.rs
  rcases hv.pw with ⟨w1, w2⟩ | ⟨f, e, w1, w2, w3, w4, w5, w6⟩
  · refine case_B hv (by decide) (by decide) (by decide) (bL_way hW (tX10_wayF0 hW hRS w1 x1)) (fun n' => tX11_wayF hW hRS x1 (Or.inl w2) (fun q => ?_))
    have q1 := q.1
    rw [w2] at q1
    exact absurd q1 (by decide)
  · have tn2 : (nI (e - f + 1)).toInt = ((e - f + 1 : Nat) : Int) := nI_toInt (by omega)
    by_cases hg : -1 ≤ x1.toInt ∧ x1.toInt < ((e - f + 1 : Nat) : Int)
    · refine case_Q (dX := 2) (F := fun J => wayV J x1) hv (by decide) (by decide) (gL_way hW (jCD_D hv.cx (tX10_way hW hRS w3 w4 w1 w2 x1 hg)) jQD_q) (fun J M' hJ iv => ?_) (fun J hJ => ?_)
      · have e8 : J 1069 38 = nI (e - f + 1) := (congrFun (congrFun hJ 1069) 38).trans w5
        refine jCD_s (tX11_way hW hRS x1 (Or.inr ⟨e - f + 1, by omega, e8⟩) ?_)
        unfold wayG
        rw [e8, tn2]
        omega
      · have e8 : J 1069 38 = nI (e - f + 1) := (congrFun (congrFun hJ 1069) 38).trans w5
        show (if x1 = -1 then J 1069 38 else J 1092 (cN x1)) = if x1 = -1 then nI (e - f + 1) else I 1002 (f + cN x1)
        by_cases q : x1 = -1
        · rw [if_pos q, if_pos q, e8]
        · rw [if_neg q, if_neg q]
          have hx0 : 0 ≤ x1.toInt := by
            have : x1.toInt ≠ -1 := fun z => q (Int32.toInt_inj.mp (z.trans (by decide)))
            omega
          have e9 : (cN x1 : Int) = x1.toInt := Int.toNat_of_nonneg hx0
          exact (congrFun (congrFun hJ 1092) (cN x1)).trans (w6 (cN x1) (by omega)).symm
    · refine case_B hv (by decide) (by decide) (by decide) (bL_way hW (tX10_wayF hW hRS w3 w4 w1 w2 x1 hg)) (fun n' => tX11_wayF hW hRS x1 (Or.inr ⟨e - f + 1, by omega, w5⟩) (fun q => hg ?_))
      unfold wayG at q
      rw [w5, tn2] at q
      omega
end CQ
