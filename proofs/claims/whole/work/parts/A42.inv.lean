/-! THE INVARIANT between the class's half and the reference's half -/
section IC
variable {W H pace : Nat} {m m' : Nat → Nat → Bool} {s s' : Nat → Nat → Nat}
theorem wrun_c {f g : Nat → Int32} {len : Nat} (h : ∀ k, k < len → f k = g k) (day tick : Nat) (wind : Int32) : ∀ k, k ≤ len → wrun day tick wind f k = wrun day tick wind g k
  | 0, _ => rfl
  | k + 1, hk => by
    show wst day tick wind (wrun day tick wind f k) (f k) = wst day tick wind (wrun day tick wind g k) (g k)
    rw [wrun_c h day tick wind k (by omega), h k (by omega)]
theorem wlev_c {f g : Nat → Int32} {len : Nat} (h : ∀ k, k < len → f k = g k) (day tick : Nat) (wind : Int32) : wlev f len day tick wind = wlev g len day tick wind := by
  unfold wlev
  rw [wrun_c h day tick wind len (Nat.le_refl _)]
theorem qOn_c {qa qb : Nat → Nat} {day : Nat} {dx dy : Int} {c : Nat} : ∀ n, (∀ k, k < n → qa k = qb k) → qOn W H qa day dx dy n c = qOn W H qb day dx dy n c
  | 0, _ => rfl
  | n + 1, h => by
    show (qOn W H qa day dx dy n c || decide (qpos W H (qa n) day dx dy = c)) = (qOn W H qb day dx dy n c || decide (qpos W H (qb n) day dx dy = c))
    rw [qOn_c n (fun k hk => h k (by omega)), h n (by omega)]
theorem allS_c {q t : Nat} (h : ∀ t, m q t = m' q t) : ∀ j, allS m q t j = allS m' q t j
  | 0 => rfl
  | j + 1 => by
    show (allS m q t j && m q (t + j + 1)) = (allS m' q t j && m' q (t + j + 1))
    rw [allS_c h j, h]
theorem sUp_c (hW : 3 ≤ W) (hH : 1 ≤ H) (hm : ∀ c t, c < W * H → m c t = m' c t) (hs : ∀ c t, c < W * H → s c t = s' c t) {c t : Nat} (hc : c < W * H) : ∀ w, sUp W H pace m s c t w = sUp W H pace m' s' c t w
  | 0 => by
    show sStay m s c t = sStay m' s' c t
    unfold sStay
    rw [hm c _ hc, hs c _ hc]
  | w + 1 => by
    show sMin W H pace m s c t w (sUp W H pace m s c t w) = sMin W H pace m' s' c t w (sUp W H pace m' s' c t w)
    rw [sUp_c hW hH hm hs hc w]
    unfold sMin
    cases h : nbr W H c w with
    | none => rfl
    | some q =>
      have hq := nbr_lt hW hH hc h
      have e : stp pace m q t = stp pace m' q t := by
        unfold stp
        rw [allS_c (fun t => hm q t hq)]
      simp only [e, hs q _ hq]
theorem snT_c (hW : 3 ≤ W) (hH : 1 ≤ H) (hm : ∀ c t, c < W * H → m c t = m' c t) : ∀ r c t, c < W * H → snT W H pace m r c t = snT W H pace m' r c t
  | 0, _, _, _ => rfl
  | r + 1, c, t, hc => by
    show (if t = 95 - r then sOne W H pace m (snT W H pace m r) c t else snT W H pace m r c t) = (if t = 95 - r then sOne W H pace m' (snT W H pace m' r) c t else snT W H pace m' r c t)
    have e : sOne W H pace m (snT W H pace m r) c t = sOne W H pace m' (snT W H pace m' r) c t := by
      unfold sOne
      rw [sUp_c hW hH hm (snT_c hW hH hm r) hc]
    rw [e, snT_c hW hH hm r c t hc]
end IC
section IX
variable {I J K : Nat → Nat → Int32} {L M : Nat → Nat → Int64} {R : Nat → Nat → Option Nat} {h : Nat} {T T' : Nat → Nat → Int32} {W H np len : Nat}
theorem arr_c (hI : RI T W H np len) (t : ∀ a j, a ≠ 1084 → tlR a j = true → T' a j = T a j) (t2 : ∀ k, k < len → T' 1082 k = T 1082 k) {p : Nat} (hp : p < np) (day : Nat) (wind : Int32) (fog tick : Nat) : arr T' W H len day wind p fog tick = arr T W H len day wind p fog tick := by
  have hT := RI.tq hI
  have hwh : W * H ≤ 9 * 7 := Nat.mul_le_mul hT.1.2 hT.2.1.2
  have hn := hI.2.2.2.2.1.2
  have h4 := hI.1.2.1.2
  have e : ∀ j, j < 17 → T' 1072 j = T 1072 j := fun j hj => t 1072 j (by decide) (decide_eq_true (by omega))
  have eq : ∀ c, qq T' W H day c = qq T W H day c := fun c => by
    unfold qq
    rw [e 4 (by decide), e 5 (by decide), e 6 (by decide)]
    exact qOn_c _ (fun k hk => by
      show cN (T' 1075 k) = cN (T 1075 k)
      rw [t 1075 k (by decide) (decide_eq_true (by omega))])
  have em : ∀ c u, c < W * H → mP T' W H len day wind p c u = mP T W H len day wind p c u := fun c u hc => by
    unfold mP mK mayQ hgt wht
    rw [t 1076 p (by decide) (decide_eq_true (by omega)), t 1078 p (by decide) (decide_eq_true (by omega)), t 1073 c (by decide) (decide_eq_true (by omega)), t 1074 c (by decide) (decide_eq_true (by omega)), eq c, wlev_c t2]
  have hp9 := (hI.2.2.2.2.2.1 p hp).2.2.2.1.2
  unfold arr pcOf
  rw [t 1076 p (by decide) (decide_eq_true (by omega)), t 1077 p (by decide) (decide_eq_true (by omega)), t 1079 p (by decide) (decide_eq_true (by omega))]
  refine snT_c hT.1.1 hT.2.1.1 em 96 _ _ ?_
  exact (Nat.mul_lt_mul_left (show 0 < W from Nat.lt_of_lt_of_le (by decide) hT.1.1)).mpr hp9
theorem CIs_g2 (hI : RI T W H np len) (hc : CIs I L h T W H np len) (t : ∀ a j, a ≠ 1084 → tlR a j = true → T' a j = T a j) (t2 : ∀ k, k < len → T' 1082 k = T 1082 k) : CIs I L h T' W H np len := by
  obtain ⟨c1, c2, ⟨d1, d2⟩, f, g⟩ := CIs_g (J := I) (M := L) (T' := fun a j => if a = 1084 then T a j else T' a j) hI hc (fun _ _ _ _ _ => rfl) (fun _ _ _ => rfl) (fun a j ha => by
    by_cases q : a = 1084
    · exact if_pos q
    · exact (if_neg q).trans (t a j q ha)) t2
  exact ⟨c1, c2, ⟨d1, fun p k hp hk => (d2 p k hp hk).trans (if_neg (by omega))⟩, f, g⟩
theorem RI_c2 (hI : RI T W H np len) (t : ∀ a j, a ≠ 1084 → tlR a j = true → T' a j = T a j) (t2 : ∀ k, k < len → T' 1082 k = T 1082 k) : RI T' W H np len := by
  have q := RI_c (T' := fun a j => if a = 1084 then T a j else T' a j) hI (fun a j ha => by
    by_cases q : a = 1084
    · exact if_pos q
    · exact (if_neg q).trans (t a j q ha)) t2
  exact RI.kp q (fun a h1 h2 => funext fun j => (if_neg (by omega)).symm)
theorem CX_T (hX : CX I L R h T W H np len) (t : ∀ a j, a ≠ 1084 → tlR a j = true → T' a j = T a j) (t2 : ∀ k, k < len → T' 1082 k = T 1082 k) : CX I L R h T' W H np len := by
  obtain ⟨⟨c1, c2, c3, c4, c5, c6⟩, c7⟩ := hX
  have e7 : T' 1072 7 = T 1072 7 := t 1072 7 (by decide) (decide_eq_true (by omega))
  refine ⟨⟨c1, CIs_g2 c3 c2 t t2, RI_c2 c3 t t2, fun k hk => by rw [t2 k hk]; exact c4 k hk, fun day hd hb u hu => ?_, fun p day hp hd => ?_⟩, c7⟩
  · rw [wlev_c t2, e7]
    exact c5 day hd hb u hu
  · rw [arr_c c3 t t2 hp, e7]
    exact c6 p day hp hd
theorem CX_o (hX : CX I L R h T W H np len) (e1 : ∀ b j, 1008 ≤ b → b ≤ 1042 → J b j = I b j) (e2 : ∀ b j, 1008 ≤ b → b ≤ 1040 → M b j = L b j) : CX J M R h T W H np len := ⟨CF_D hX.1 e1 e2, hX.2⟩
/-- where the reference's told island has not changed -/
theorem CX_K (hX : CX I L R h (hR J) W H np len) (e : ∀ a j, 1072 ≤ a → a ≤ 1082 → K a j = J a j) : CX I L R h (hR K) W H np len := by
  have q : ∀ a j, 1072 ≤ a → a ≤ 1082 → hR K a j = hR J a j := fun a j h1 h2 => by rw [hR_kp K a h1 h2, hR_kp J a h1 h2]; exact e a j h1 h2
  refine CX_T hX (fun a j h1 h2 => ?_) (fun k _ => q 1082 k (by decide) (by decide))
  have h3 := of_decide_eq_true h2
  exact q a j (by omega) (by omega)
end IX
def BkF (n0 : Int32) (a1 a2 a3 a4 a5 : Nat → Int32) (m0 : Int32) (t1 t2 t3 t4 t5 : Nat → Int32) (W H np b : Nat) : Prop :=
  n0 = nI b ∧ (m0 = nI b ∧ BK W H np b t1 t2 t3 t4 t5) ∧ (∀ i, i < b → a1 i = t1 i ∧ a2 i = t2 i ∧ a3 i = t3 i ∧ a4 i = t4 i ∧ ∀ t, cN (t3 i) ≤ t → t ≤ cN (t4 i) → a5 (i * 96 + t) = t5 (96 * i + t)) ∧ ∀ i j, i < j → j < b → cN (t1 i) ≠ cN (t1 j)
theorem BkF_c {n0 m0 n0' m0' : Int32} {a1 a2 a3 a4 a5 t1 t2 t3 t4 t5 b1 b2 b3 b4 b5 u1 u2 u3 u4 u5 : Nat → Int32} {W H np b : Nat} (h : BkF n0 a1 a2 a3 a4 a5 m0 t1 t2 t3 t4 t5 W H np b) (e0 : n0' = n0) (e1 : ∀ i, i < 12 → b1 i = a1 i) (e2 : ∀ i, i < 12 → b2 i = a2 i) (e3 : ∀ i, i < 12 → b3 i = a3 i) (e4 : ∀ i, i < 12 → b4 i = a4 i) (e5 : ∀ i, i < 1152 → b5 i = a5 i)
    (f0 : m0' = m0) (f1 : ∀ i, i < 12 → u1 i = t1 i) (f2 : ∀ i, i < 12 → u2 i = t2 i) (f3 : ∀ i, i < 12 → u3 i = t3 i) (f4 : ∀ i, i < 12 → u4 i = t4 i) (f5 : ∀ i, i < 1152 → u5 i = t5 i) : BkF n0' b1 b2 b3 b4 b5 m0' u1 u2 u3 u4 u5 W H np b := by
  obtain ⟨h0, ⟨h1, hb, h2⟩, h3, h4⟩ := h
  refine ⟨e0.trans h0, ⟨f0.trans h1, hb, fun i hi => ?_⟩, fun i hi => ?_, fun i j hij hj => ?_⟩
  · have hi2 : i < 12 := by omega
    rw [f1 i hi2, f2 i hi2, f3 i hi2, f4 i hi2]
    obtain ⟨g1, g2, g3, g4⟩ := h2 i hi
    exact ⟨g1, g2, g3, fun j q1 q2 => by rw [f5 _ (by omega)]; exact g4 j q1 q2⟩
  · have hi2 : i < 12 := by omega
    obtain ⟨g1, g2, g3, g4⟩ := h2 i hi
    rw [e1 i hi2, e2 i hi2, e3 i hi2, e4 i hi2, f1 i hi2, f2 i hi2, f3 i hi2, f4 i hi2]
    obtain ⟨k1, k2, k3, k4, k5⟩ := h3 i hi
    exact ⟨k1, k2, k3, k4, fun t q1 q2 => by rw [e5 _ (by omega), f5 _ (by omega)]; exact k5 t q1 q2⟩
  · rw [f1 i (by omega), f1 j (by omega)]
    exact h4 i j hij hj
def SkF (n8 n9 : Int32) (a1 a2 : Nat → Int32) (m0 : Int32) (t1 t2 t3 : Nat → Int32) (W H s : Nat) : Prop :=
  n9 = nI s ∧ (m0 = nI s ∧ SK W H s t1 t2 t3) ∧ ∀ i, i < s → a1 i = t1 i ∧ a2 i = t2 i ∧ ((n8 >>> (nI i &&& 31)) &&& 1) = t3 i
theorem SkF_c {n8 n9 m0 k8 k9 k0 : Int32} {a1 a2 t1 t2 t3 b1 b2 u1 u2 u3 : Nat → Int32} {W H s : Nat} (h : SkF n8 n9 a1 a2 m0 t1 t2 t3 W H s) (e8 : k8 = n8) (e9 : k9 = n9) (e1 : ∀ i, i < 12 → b1 i = a1 i) (e2 : ∀ i, i < 12 → b2 i = a2 i) (f0 : k0 = m0) (f1 : ∀ i, i < 12 → u1 i = t1 i) (f2 : ∀ i, i < 12 → u2 i = t2 i) (f3 : ∀ i, i < 12 → u3 i = t3 i) : SkF k8 k9 b1 b2 k0 u1 u2 u3 W H s := by
  obtain ⟨h0, ⟨h1, hb, h2⟩, h3⟩ := h
  refine ⟨e9.trans h0, ⟨f0.trans h1, hb, fun i hi => ?_⟩, fun i hi => ?_⟩
  · have hi2 : i < 12 := by omega
    rw [f1 i hi2, f2 i hi2, f3 i hi2]
    exact h2 i hi
  · have hi2 : i < 12 := by omega
    rw [e1 i hi2, e2 i hi2, f1 i hi2, f2 i hi2, f3 i hi2, e8]
    exact h3 i hi
section IV
variable {I J K : Nat → Nat → Int32} {L M : Nat → Nat → Int64} {R : Nat → Nat → Option Nat} {h g W H np len b s tn : Nat} {tp : Nat → Nat}
def PB (I : Nat → Nat → Int32) (W H np b : Nat) : Prop := BkF (I 1051 5) (I 1052) (I 1053) (I 1054) (I 1055) (I 1056) (I 1069 32) (I 1094) (I 1095) (I 1096) (I 1097) (I 1098) W H np b
def PS (I : Nat → Nat → Int32) (W H s : Nat) : Prop := SkF (I 1051 8) (I 1051 9) (I 1057) (I 1058) (I 1069 33) (I 1104) (I 1105) (I 1106) W H s
def PN (I : Nat → Nat → Int32) : Prop := ∀ j, j < 12 → I 1106 j &&& 1 = I 1106 j ∧ I 1117 j &&& 1 = I 1117 j
def PF (I : Nat → Nat → Int32) (tn : Nat) (tp : Nat → Nat) : Prop := I 1000 1 = nI tn ∧ I 1069 17 = nI tn ∧ tn ≤ 700 ∧ ∀ k, k < tn → I 1001 k = sb (tp k) ∧ I 1085 k = nI (tp k) ∧ tp k < 256
def PG (I : Nat → Nat → Int32) : Prop := I 1000 3 = I 1069 26
def PC (I : Nat → Nat → Int32) : Prop := ∀ j, j < 3 → I 1059 j = I 1083 j
def PW (I : Nat → Nat → Int32) : Prop := (I 1000 13 = -1 ∧ I 1069 38 = -1) ∨ ∃ f e, f ≤ e ∧ e < 96 ∧ I 1000 12 = nI f ∧ I 1000 13 = nI e ∧ I 1069 38 = nI (e - f + 1) ∧ ∀ i, i < e - f + 1 → I 1002 (f + i) = I 1092 i
def PD (I : Nat → Nat → Int32) (np : Nat) : Prop := ∃ z : Bool, I 1000 15 = jb z ∧ I 1069 49 = jb z ∧ (z = true → ∀ k, k < np → I 1003 k = I 1102 k)
def PI (I : Nat → Nat → Int32) (W H np : Nat) : Prop := ∃ z : Bool, I 1000 10 = jb z ∧ I 1069 55 = jb z ∧ (z = true → (∃ b, BkF (I 1060 5) (I 1061) (I 1062) (I 1063) (I 1064) (I 1065) (I 1069 56) (I 1109) (I 1110) (I 1111) (I 1112) (I 1113) W H np b) ∧ (∃ s, SkF (I 1060 8) (I 1060 9) (I 1066) (I 1067) (I 1069 57) (I 1114) (I 1115) (I 1117) W H s) ∧ ∀ j, j < 3 → I 1068 j = I 1116 j)
def PT (I : Nat → Nat → Int32) (W H np : Nat) : Prop := QS I np ∧ ∀ c, c < W * H → I 1074 c ≠ 0 → c % W ≠ 0 ∧ c % W ≠ W - 1
theorem PB_f (hp : PB I W H np b) (e : ∀ a j, (a = 1051 ∧ j = 5 ∨ 1052 ≤ a ∧ a ≤ 1056 ∨ a = 1069 ∧ j = 32 ∨ 1094 ≤ a ∧ a ≤ 1098) → K a j = I a j) : PB K W H np b :=
  BkF_c hp (e _ _ (by omega)) (fun _ _ => e _ _ (by omega)) (fun _ _ => e _ _ (by omega)) (fun _ _ => e _ _ (by omega)) (fun _ _ => e _ _ (by omega)) (fun _ _ => e _ _ (by omega)) (e _ _ (by omega)) (fun _ _ => e _ _ (by omega)) (fun _ _ => e _ _ (by omega)) (fun _ _ => e _ _ (by omega)) (fun _ _ => e _ _ (by omega)) (fun _ _ => e _ _ (by omega))
theorem PS_f (hp : PS I W H s) (e : ∀ a j, (a = 1051 ∧ (j = 8 ∨ j = 9) ∨ a = 1057 ∨ a = 1058 ∨ a = 1069 ∧ j = 33 ∨ 1104 ≤ a ∧ a ≤ 1106) → K a j = I a j) : PS K W H s :=
  SkF_c hp (e _ _ (by omega)) (e _ _ (by omega)) (fun _ _ => e _ _ (by omega)) (fun _ _ => e _ _ (by omega)) (e _ _ (by omega)) (fun _ _ => e _ _ (by omega)) (fun _ _ => e _ _ (by omega)) (fun _ _ => e _ _ (by omega))
theorem PN_f (hp : PN I) (e : ∀ a j, (a = 1106 ∨ a = 1117) → K a j = I a j) : PN K := fun j hj => by
  rw [e 1106 j (by omega), e 1117 j (by omega)]; exact hp j hj
theorem PF_f (hp : PF I tn tp) (e : ∀ a j, (a = 1000 ∧ j = 1 ∨ a = 1001 ∨ a = 1069 ∧ j = 17 ∨ a = 1085) → K a j = I a j) : PF K tn tp :=
  ⟨(e _ _ (by omega)).trans hp.1, (e _ _ (by omega)).trans hp.2.1, hp.2.2.1, fun k hk => ⟨(e _ _ (by omega)).trans (hp.2.2.2 k hk).1, (e _ _ (by omega)).trans (hp.2.2.2 k hk).2.1, (hp.2.2.2 k hk).2.2⟩⟩
theorem PG_f (hp : PG I) (e : ∀ a j, (a = 1000 ∧ j = 3 ∨ a = 1069 ∧ j = 26) → K a j = I a j) : PG K := (e _ _ (by omega)).trans (hp.trans (e _ _ (by omega)).symm)
theorem PC_f (hp : PC I) (e : ∀ a j, (a = 1059 ∨ a = 1083) → K a j = I a j) : PC K := fun j hj => (e _ _ (by omega)).trans ((hp j hj).trans (e _ _ (by omega)).symm)
theorem PW_f (hp : PW I) (e : ∀ a j, (a = 1000 ∧ (j = 12 ∨ j = 13) ∨ a = 1002 ∨ a = 1069 ∧ j = 38 ∨ a = 1092) → K a j = I a j) : PW K := by
  rcases hp with ⟨h1, h2⟩ | ⟨f, e1, h1, h2, h3, h4, h5, h6⟩
  · exact Or.inl ⟨(e _ _ (by omega)).trans h1, (e _ _ (by omega)).trans h2⟩
  · exact Or.inr ⟨f, e1, h1, h2, (e _ _ (by omega)).trans h3, (e _ _ (by omega)).trans h4, (e _ _ (by omega)).trans h5, fun i hi => (e _ _ (by omega)).trans ((h6 i hi).trans (e _ _ (by omega)).symm)⟩
theorem PD_f (hp : PD I np) (e : ∀ a j, (a = 1000 ∧ j = 15 ∨ a = 1003 ∨ a = 1069 ∧ j = 49 ∨ a = 1102) → K a j = I a j) : PD K np := by
  obtain ⟨z, h1, h2, h3⟩ := hp
  exact ⟨z, (e _ _ (by omega)).trans h1, (e _ _ (by omega)).trans h2, fun hz k hk => (e _ _ (by omega)).trans ((h3 hz k hk).trans (e _ _ (by omega)).symm)⟩
theorem PI_f (hp : PI I W H np) (e : ∀ a j, (a = 1000 ∧ j = 10 ∨ 1060 ≤ a ∧ a ≤ 1068 ∨ a = 1069 ∧ (j = 55 ∨ j = 56 ∨ j = 57) ∨ 1109 ≤ a ∧ a ≤ 1117) → K a j = I a j) : PI K W H np := by
  obtain ⟨z, h1, h2, h3⟩ := hp
  refine ⟨z, (e _ _ (by omega)).trans h1, (e _ _ (by omega)).trans h2, fun hz => ?_⟩
  obtain ⟨⟨b, q1⟩, ⟨s, q2⟩, q3⟩ := h3 hz
  exact ⟨⟨b, BkF_c q1 (e _ _ (by omega)) (fun _ _ => e _ _ (by omega)) (fun _ _ => e _ _ (by omega)) (fun _ _ => e _ _ (by omega)) (fun _ _ => e _ _ (by omega)) (fun _ _ => e _ _ (by omega)) (e _ _ (by omega)) (fun _ _ => e _ _ (by omega)) (fun _ _ => e _ _ (by omega)) (fun _ _ => e _ _ (by omega)) (fun _ _ => e _ _ (by omega)) (fun _ _ => e _ _ (by omega))⟩,
    ⟨s, SkF_c q2 (e _ _ (by omega)) (e _ _ (by omega)) (fun _ _ => e _ _ (by omega)) (fun _ _ => e _ _ (by omega)) (e _ _ (by omega)) (fun _ _ => e _ _ (by omega)) (fun _ _ => e _ _ (by omega)) (fun _ _ => e _ _ (by omega))⟩, fun j hj => (e _ _ (by omega)).trans ((q3 j hj).trans (e _ _ (by omega)).symm)⟩
theorem PT_f (hw : W * H ≤ 63) (hn : np ≤ 6) (hp : PT I W H np) (e : ∀ a j, (a = 1074 ∧ j < 63 ∨ a = 1081 ∧ j < 6) → K a j = I a j) : PT K W H np := by
  refine ⟨fun p hpn q hq => ?_, fun c hc hne => hp.2 c hc (by rw [← e 1074 c (by omega)]; exact hne)⟩
  rw [e 1081 p (by omega)] at hq
  obtain ⟨q1, q2, q3⟩ := hp.1 p hpn q hq
  exact ⟨q1, q2, by rw [e 1081 q (by omega)]; exact q3⟩
theorem CPk_f (hp : CPk I) (e : K 1006 6 = I 1006 6) : CPk K := by
  obtain ⟨c, h1, h2⟩ := hp
  exact ⟨c, e.trans h1, h2⟩
def IV (I : Nat → Nat → Int32) (L : Nat → Nat → Int64) (R : Nat → Nat → Option Nat) (h g W H np len b s tn : Nat) (tp : Nat → Nat) : Prop := RS R ∧ ((h = 1008 ∧ g = 1024) ∨ (h = 1024 ∧ g = 1008)) ∧ R 1000 5 = some g ∧ CX I L R h (hR I) W H np len ∧ PT I W H np ∧ CPk I ∧ PB I W H np b ∧ PS I W H s ∧ PN I ∧ PF I tn tp ∧ PG I ∧ PC I ∧ PW I ∧ PD I np ∧ PI I W H np
theorem IV.rs (hv : IV I L R h g W H np len b s tn tp) : RS R := hv.1
theorem IV.hg (hv : IV I L R h g W H np len b s tn tp) : ((h = 1008 ∧ g = 1024) ∨ (h = 1024 ∧ g = 1008)) := hv.2.1
theorem IV.r5 (hv : IV I L R h g W H np len b s tn tp) : R 1000 5 = some g := hv.2.2.1
theorem IV.cx (hv : IV I L R h g W H np len b s tn tp) : CX I L R h (hR I) W H np len := hv.2.2.2.1
theorem IV.pt (hv : IV I L R h g W H np len b s tn tp) : PT I W H np := hv.2.2.2.2.1
theorem IV.cp (hv : IV I L R h g W H np len b s tn tp) : CPk I := hv.2.2.2.2.2.1
theorem IV.pb (hv : IV I L R h g W H np len b s tn tp) : PB I W H np b := hv.2.2.2.2.2.2.1
theorem IV.ps (hv : IV I L R h g W H np len b s tn tp) : PS I W H s := hv.2.2.2.2.2.2.2.1
theorem IV.pn (hv : IV I L R h g W H np len b s tn tp) : PN I := hv.2.2.2.2.2.2.2.2.1
theorem IV.pf (hv : IV I L R h g W H np len b s tn tp) : PF I tn tp := hv.2.2.2.2.2.2.2.2.2.1
theorem IV.pg (hv : IV I L R h g W H np len b s tn tp) : PG I := hv.2.2.2.2.2.2.2.2.2.2.1
theorem IV.pc (hv : IV I L R h g W H np len b s tn tp) : PC I := hv.2.2.2.2.2.2.2.2.2.2.2.1
theorem IV.pw (hv : IV I L R h g W H np len b s tn tp) : PW I := hv.2.2.2.2.2.2.2.2.2.2.2.2.1
theorem IV.pd (hv : IV I L R h g W H np len b s tn tp) : PD I np := hv.2.2.2.2.2.2.2.2.2.2.2.2.2.1
theorem IV.pi (hv : IV I L R h g W H np len b s tn tp) : PI I W H np := hv.2.2.2.2.2.2.2.2.2.2.2.2.2.2
def INV (I : Nat → Nat → Int32) (L : Nat → Nat → Int64) (R : Nat → Nat → Option Nat) : Prop := ∃ h g W H np len b s tn tp, IV I L R h g W H np len b s tn tp
theorem IV.ri (hv : IV I L R h g W H np len b s tn tp) : RI I W H np len := hv.cx.1.2.2.1
theorem IV.wh (hv : IV I L R h g W H np len b s tn tp) : W * H ≤ 63 ∧ np ≤ 6 := ⟨Nat.mul_le_mul (RI.tq hv.ri).1.2 (RI.tq hv.ri).2.1.2, hv.ri.2.2.2.2.1.2⟩
theorem IV.lb (hv : IV I L R h g W H np len b s tn tp) : LBk I (hR I) W H np b := ⟨hv.pb.1, hv.pb.2.1, hv.pb.2.2.1⟩
theorem IV.db (hv : IV I L R h g W H np len b s tn tp) : DBk (hR I) b := hv.pb.2.2.2
theorem IV.b12 (hv : IV I L R h g W H np len b s tn tp) : b ≤ 12 := hv.pb.2.1.2.1
theorem IV.lsk (hv : IV I L R h g W H np len b s tn tp) : LSk I (hR I) W H s := ⟨hv.ps.1, hv.ps.2.1, hv.ps.2.2⟩
theorem IV.s12 (hv : IV I L R h g W H np len b s tn tp) : s ≤ 12 := hv.ps.2.1.2.1
theorem IV.rk (hv : IV I L R h g W H np len b s tn tp) : RK I W H np b := hv.pb.2.1
theorem IV.rsk (hv : IV I L R h g W H np len b s tn tp) : RSk I W H s := hv.ps.2.1
/-- what a question leaves alone -/
def qk (a j : Nat) : Prop := a ≠ 1041 ∧ a ≠ 1042 ∧ a ≠ 1015 ∧ a ≠ 1031 ∧ ¬ (a = 1040 ∧ (j = 7 ∨ j = 8)) ∧ a ≠ 1045 ∧ a ≠ 1048 ∧ a ≠ 1049 ∧ a ≠ 1050 ∧ ¬ (1086 ≤ a ∧ a ≤ 1091) ∧ a ≠ 1093 ∧ ¬ (1099 ≤ a ∧ a ≤ 1101) ∧ a ≠ 1103 ∧ a ≠ 1107 ∧ a ≠ 1108 ∧ ¬ (a = 1069 ∧ (j = 35 ∨ j = 2))
theorem IV_f (hv : IV I L R h g W H np len b s tn tp) (hX : CX K M R h (hR K) W H np len) (e : ∀ a j, qk a j → K a j = I a j) : IV K M R h g W H np len b s tn tp :=
  ⟨hv.rs, hv.hg, hv.r5, hX, PT_f hv.wh.1 hv.wh.2 hv.pt (fun a j q => e a j (by unfold qk; omega)), CPk_f hv.cp (e _ _ (by unfold qk; omega)), PB_f hv.pb (fun a j q => e a j (by unfold qk; omega)), PS_f hv.ps (fun a j q => e a j (by unfold qk; omega)), PN_f hv.pn (fun a j q => e a j (by unfold qk; omega)), PF_f hv.pf (fun a j q => e a j (by unfold qk; omega)), PG_f hv.pg (fun a j q => e a j (by unfold qk; omega)), PC_f hv.pc (fun a j q => e a j (by unfold qk; omega)), PW_f hv.pw (fun a j q => e a j (by unfold qk; omega)), PD_f hv.pd (fun a j q => e a j (by unfold qk; omega)), PI_f hv.pi (fun a j q => e a j (by unfold qk; omega))⟩
end IV
