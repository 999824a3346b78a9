/-! THE REFERENCE'S HALF OF THE HEAP: what lasts of it. All that the document speaks of is said of this half alone. -/
def hRd (b j : Nat) : Bool := Nat.ble 1069 b && (!(scr b j) && !(Nat.beq b 1069 && Nat.beq j 2))
def hR (I : Nat → Nat → Int32) : Nat → Nat → Int32 := fun b j => cond (hRd b j) (I b j) 0
section HR
variable (I : Nat → Nat → Int32)
theorem h_qq : qq (hR I) = qq I := rfl
theorem h_cellA : cellA (hR I) = cellA I := rfl
theorem h_arr : arr (hR I) = arr I := rfl
theorem h_wyF : wyF (hR I) = wyF I := rfl
theorem h_mP : mP (hR I) = mP I := rfl
theorem h_NS : NS (hR I) = NS I := rfl
theorem h_cntV : cntV (hR I) = cntV I := rfl
theorem h_pl : pl (hR I) = pl I := rfl
theorem h_mt : mt (hR I) = mt I := rfl
theorem h_crw : crw (hR I) = crw I := rfl
theorem h_thr : thr (hR I) = thr I := by
  funext day k
  induction k with
  | zero => rfl
  | succ k ih => show (if onD I day k = true then thr (hR I) day k ||| (1 <<< cN (I 1094 k)) else thr (hR I) day k) = _; rw [ih]; rfl
theorem h_lvN : lvN (hR I) = lvN I := by
  funext W b day there s
  induction s with
  | zero => rfl
  | succ s ih => show (if s &&& there = s ∧ pc6 s < pc6 (lvN (hR I) W b day there s) ∧ crw I W b day s = none then s else lvN (hR I) W b day there s) = _; rw [ih]; rfl
theorem h_ftM : ftM (hR I) = ftM I := rfl
theorem h_qset : qset (hR I) = qset I := rfl
theorem h_pfx : pfx (hR I) = pfx I := by
  funext f
  induction f with
  | zero => rfl
  | succ f ih => show pfx (hR I) f + wf I f = _; rw [ih]; rfl
theorem h_vgC : vgC (hR I) = vgC I := by
  funext a f
  induction f with
  | zero => rfl
  | succ f ih => show (if a f = 1000 then vgC (hR I) a f else vgC (hR I) a f + wf I f) = _; rw [ih]; rfl
theorem h_vgS : vgS (hR I) = vgS I := by
  funext a tick f
  induction f with
  | zero => rfl
  | succ f ih => show (if a f = 1000 then vgS (hR I) a tick f else vgS (hR I) a tick f + wf I f * (a f - tick)) = _; rw [ih]; rfl
theorem hR_at {b j : Nat} (h : hRd b j = true) : hR I b j = I b j := by
  show cond (hRd b j) (I b j) 0 = I b j
  rw [h]; rfl
theorem hR_kp : kp I (hR I) := fun a h1 h2 => funext fun j => hR_at I (by
  have e : scr a j = false := by simp [scr]; omega
  have e2 : Nat.ble 1069 a = true := Nat.ble_eq.mpr (by omega)
  have e3 : Nat.beq a 1069 = false := Bool.eq_false_iff.mpr (fun q => by have := Nat.eq_of_beq_eq_true q; omega)
  show (Nat.ble 1069 a && (!(scr a j) && !(Nat.beq a 1069 && Nat.beq j 2))) = true
  rw [e, e2, e3]; rfl)
theorem h_byK : byK (hR I) = byK I := rfl
theorem h_fgT : fgT (hR I) = fgT I := by
  funext W H len p tick v d
  unfold fgT
  rw [h_pfx, h_arr]; rfl
theorem h_heirV : heirV (hR I) = heirV I := by
  funext W H np len p
  have e1 : ∀ p, cnD (hR I) W H len p = cnD I W H len p := fun p => funext fun d => cnD_kp (hR_kp I) W H len p d
  have e2 : ∀ p d, sn0 (hR I) W H len p d = sn0 I W H len p d := fun p d => sn0_kp (hR_kp I) W H len p d
  have e : ∀ p, hKey (hR I) W H len p = hKey I W H len p := fun p => by unfold hKey; simp only [e1, e2]
  have e3 : ∀ own, hLess (hR I) W H len own = hLess I W H len own := fun own => funext fun q => by unfold hLess; rw [e]
  unfold heirV
  simp only [e, e3]
theorem h_cbQ : cbQ (hR I) = cbQ I := rfl
theorem h_bry (W H len : Nat) : ∀ r p left dt mo, bry (hR I) W H len r p left dt mo = bry I W H len r p left dt mo
  | 0, _, _, _, _ => rfl
  | r + 1, p, left, dt, mo => by
    have e : ∀ d, bOk (hR I) W H len p d left dt mo = bOk I W H len p d left dt mo := fun _ => rfl
    have e2 : bEnd (hR I) p = bEnd I p := rfl
    have e3 : hR I 1080 p = I 1080 p := rfl
    simp only [bry, e, e2, e3, h_bry W H len r]
theorem h_burR : burR (hR I) = burR I := by
  funext W H np len
  have e : burG (hR I) W H np len = burG I W H np len := by
    funext q; unfold burG; simp only [h_bry]
  unfold burR
  simp only [e, h_bry]
theorem h_qAt : qAt (hR I) = qAt I := by
  funext W H np len q
  exact qAt_kp (hR_kp I) W H np len q
theorem h_RI : RI (hR I) = RI I := rfl
theorem h_RK : RK (hR I) = RK I := rfl
theorem h_RSk : RSk (hR I) = RSk I := rfl
theorem h_DBk : DBk (hR I) = DBk I := rfl
theorem h_QS : QS (hR I) = QS I := rfl
end HR
