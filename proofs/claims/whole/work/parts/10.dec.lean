/-! decoding by the bytes at a place: a law for each opcode (the rows then cost a look at three bytes, not a run of the decoder) -/
theorem jb_get {c : ByteArray} {p : Nat} {b : UInt8} (h : c.data.toList[p]? = some b) : ∃ hs : p < c.size, c[p]'hs = b := by
  obtain ⟨h1, h2⟩ := List.getElem?_eq_some_iff.mp h
  have hs : p < c.size := by
    show p < c.data.size
    rw [← Array.length_toList]; exact h1
  refine ⟨hs, ?_⟩
  show c.data[p]'hs = b
  rw [← h2]
  simp
theorem jb_u1 {c : ByteArray} {p : Nat} {b : UInt8} (h : c.data.toList[p]? = some b) : (Reader.u1 (ε := DecodeError)).runAt c p = .ok (b.toNat, p + 1) := by
  obtain ⟨hs, hg⟩ := jb_get h
  unfold Reader.u1 Reader.runAt
  show (dite (p < c.size) _ _ : Decoder Nat) c p = _
  rw [dif_pos hs]
  show Except.ok ((c[p]'hs).toNat, p + 1) = _
  rw [hg]
theorem jb_bind {α β : Type} {c : ByteArray} {p q : Nat} {r : Decoder α} {f : α → Decoder β} {x : α} (h : r.runAt c p = .ok (x, q)) : (r >>= f).runAt c p = (f x).runAt c q := by
  show (Except.bind (r.runAt c p) (fun z => (f z.1).runAt c z.2)) = _
  rw [h]
  rfl
theorem jb_s1 {c : ByteArray} {p : Nat} {b : UInt8} (h : c.data.toList[p]? = some b) : (Reader.s1 (ε := DecodeError)).runAt c p = .ok (Reader.signed 8 b.toNat, p + 1) := by
  show (Except.bind ((Reader.u1 (ε := DecodeError)).runAt c p) (fun z => Except.ok (Reader.signed 8 z.1, z.2))) = _
  rw [jb_u1 h]
  rfl
theorem jb_u2 {c : ByteArray} {p : Nat} {b1 b2 : UInt8} (h1 : c.data.toList[p]? = some b1) (h2 : c.data.toList[p + 1]? = some b2) : (Reader.u2 (ε := DecodeError)).runAt c p = .ok (b1.toNat * 256 + b2.toNat, p + 1 + 1) := by
  unfold Reader.u2
  rw [jb_bind (jb_u1 h1), jb_bind (jb_u1 h2)]
  rfl
theorem jb_s2 {c : ByteArray} {p : Nat} {b1 b2 : UInt8} (h1 : c.data.toList[p]? = some b1) (h2 : c.data.toList[p + 1]? = some b2) : (Reader.s2 (ε := DecodeError)).runAt c p = .ok (Reader.signed 16 (b1.toNat * 256 + b2.toNat), p + 1 + 1) := by
  show (Except.bind ((Reader.u2 (ε := DecodeError)).runAt c p) (fun z => Except.ok (Reader.signed 16 z.1, z.2))) = _
  rw [jb_u2 h1 h2]
  rfl
theorem jb_dec {c : ByteArray} {pc : Nat} {b : UInt8} {i : Instr} {q len : Nat} (h : c.data.toList[pc]? = some b) (f : Nat → Decoder Instr) (hf : Decoder.instr pc = Reader.u1 >>= f) (h2 : (f b.toNat).runAt c (pc + 1) = .ok (i, q)) (hq : q = pc + len) : decode c pc = .ok (i, len) := by
  unfold decode
  rw [hf, jb_bind (jb_u1 h), h2]
  show Except.ok (i, q - pc) = _
  congr 2
  omega
def jq0 (l : List UInt8) (pc : Nat) (op : UInt8) : Bool := match l.drop pc with
  | b :: _ => b == op
  | [] => false
def jq1 (l : List UInt8) (pc : Nat) (op : UInt8) (n : Nat) : Bool := match l.drop pc with
  | b :: b1 :: _ => b == op && Nat.beq b1.toNat n
  | _ => false
def jqs1 (l : List UInt8) (pc : Nat) (op : UInt8) (n : Int) : Bool := match l.drop pc with
  | b :: b1 :: _ => b == op && decide (Reader.signed 8 b1.toNat = n)
  | _ => false
def jq2 (l : List UInt8) (pc : Nat) (op : UInt8) (n : Nat) : Bool := match l.drop pc with
  | b :: b1 :: b2 :: _ => b == op && Nat.beq (b1.toNat * 256 + b2.toNat) n
  | _ => false
def jqs2 (l : List UInt8) (pc : Nat) (op : UInt8) (n : Int) : Bool := match l.drop pc with
  | b :: b1 :: b2 :: _ => b == op && decide (Reader.signed 16 (b1.toNat * 256 + b2.toNat) = n)
  | _ => false
def jq11 (l : List UInt8) (pc : Nat) (op : UInt8) (k : Nat) (n : Int) : Bool := match l.drop pc with
  | b :: b1 :: b2 :: _ => b == op && (Nat.beq b1.toNat k && decide (Reader.signed 8 b2.toNat = n))
  | _ => false
theorem jdrop0 {l : List UInt8} {pc : Nat} {b : UInt8} {r : List UInt8} (h : l.drop pc = b :: r) : l[pc]? = some b := by
  have := List.getElem?_drop (xs := l) (i := pc) (j := 0)
  rw [h] at this
  simpa using this.symm
theorem jdrop1 {l : List UInt8} {pc : Nat} {b b1 : UInt8} {r : List UInt8} (h : l.drop pc = b :: b1 :: r) : l[pc + 1]? = some b1 := by
  have := List.getElem?_drop (xs := l) (i := pc) (j := 1)
  rw [h] at this
  simpa using this.symm
theorem jdrop2 {l : List UInt8} {pc : Nat} {b b1 b2 : UInt8} {r : List UInt8} (h : l.drop pc = b :: b1 :: b2 :: r) : l[pc + 1 + 1]? = some b2 := by
  have := List.getElem?_drop (xs := l) (i := pc) (j := 2)
  rw [h] at this
  simpa using this.symm
theorem jq0_s {l : List UInt8} {pc : Nat} {op : UInt8} (h : jq0 l pc op = true) : l[pc]? = some op := by
  unfold jq0 at h
  split at h
  · rename_i b r e
    rw [jdrop0 e, beq_iff_eq.mp h]
  · cases h
theorem jq1_s {l : List UInt8} {pc : Nat} {op : UInt8} {n : Nat} (h : jq1 l pc op n = true) : ∃ b1, l[pc]? = some op ∧ l[pc + 1]? = some b1 ∧ b1.toNat = n := by
  unfold jq1 at h
  split at h
  · rename_i b b1 r e
    rw [Bool.and_eq_true] at h
    exact ⟨b1, by rw [jdrop0 e, beq_iff_eq.mp h.1], jdrop1 e, Nat.eq_of_beq_eq_true h.2⟩
  · cases h
theorem jqs1_s {l : List UInt8} {pc : Nat} {op : UInt8} {n : Int} (h : jqs1 l pc op n = true) : ∃ b1, l[pc]? = some op ∧ l[pc + 1]? = some b1 ∧ Reader.signed 8 b1.toNat = n := by
  unfold jqs1 at h
  split at h
  · rename_i b b1 r e
    rw [Bool.and_eq_true] at h
    exact ⟨b1, by rw [jdrop0 e, beq_iff_eq.mp h.1], jdrop1 e, of_decide_eq_true h.2⟩
  · cases h
theorem jq2_s {l : List UInt8} {pc : Nat} {op : UInt8} {n : Nat} (h : jq2 l pc op n = true) : ∃ b1 b2, l[pc]? = some op ∧ l[pc + 1]? = some b1 ∧ l[pc + 1 + 1]? = some b2 ∧ b1.toNat * 256 + b2.toNat = n := by
  unfold jq2 at h
  split at h
  · rename_i b b1 b2 r e
    rw [Bool.and_eq_true] at h
    exact ⟨b1, b2, by rw [jdrop0 e, beq_iff_eq.mp h.1], jdrop1 e, jdrop2 e, Nat.eq_of_beq_eq_true h.2⟩
  · cases h
theorem jqs2_s {l : List UInt8} {pc : Nat} {op : UInt8} {n : Int} (h : jqs2 l pc op n = true) : ∃ b1 b2, l[pc]? = some op ∧ l[pc + 1]? = some b1 ∧ l[pc + 1 + 1]? = some b2 ∧ Reader.signed 16 (b1.toNat * 256 + b2.toNat) = n := by
  unfold jqs2 at h
  split at h
  · rename_i b b1 b2 r e
    rw [Bool.and_eq_true] at h
    exact ⟨b1, b2, by rw [jdrop0 e, beq_iff_eq.mp h.1], jdrop1 e, jdrop2 e, of_decide_eq_true h.2⟩
  · cases h
theorem jq11_s {l : List UInt8} {pc : Nat} {op : UInt8} {k : Nat} {n : Int} (h : jq11 l pc op k n = true) : ∃ b1 b2, l[pc]? = some op ∧ l[pc + 1]? = some b1 ∧ l[pc + 1 + 1]? = some b2 ∧ b1.toNat = k ∧ Reader.signed 8 b2.toNat = n := by
  unfold jq11 at h
  split at h
  · rename_i b b1 b2 r e
    rw [Bool.and_eq_true, Bool.and_eq_true] at h
    exact ⟨b1, b2, by rw [jdrop0 e, beq_iff_eq.mp h.1], jdrop1 e, jdrop2 e, Nat.eq_of_beq_eq_true h.2.1, of_decide_eq_true h.2.2⟩
  · cases h
theorem dk_26 {c : ByteArray} {pc : Nat} (h : jq0 c.data.toList pc 26 = true) : decode c pc = .ok (.iload_n 0, 1) := jb_dec (jq0_s h) _ rfl rfl rfl
theorem dk_30 {c : ByteArray} {pc : Nat} (h : jq0 c.data.toList pc 30 = true) : decode c pc = .ok (.lload_n 0, 1) := jb_dec (jq0_s h) _ rfl rfl rfl
theorem dk_42 {c : ByteArray} {pc : Nat} (h : jq0 c.data.toList pc 42 = true) : decode c pc = .ok (.aload_n 0, 1) := jb_dec (jq0_s h) _ rfl rfl rfl
theorem dk_59 {c : ByteArray} {pc : Nat} (h : jq0 c.data.toList pc 59 = true) : decode c pc = .ok (.istore_n 0, 1) := jb_dec (jq0_s h) _ rfl rfl rfl
theorem dk_63 {c : ByteArray} {pc : Nat} (h : jq0 c.data.toList pc 63 = true) : decode c pc = .ok (.lstore_n 0, 1) := jb_dec (jq0_s h) _ rfl rfl rfl
theorem dk_75 {c : ByteArray} {pc : Nat} (h : jq0 c.data.toList pc 75 = true) : decode c pc = .ok (.astore_n 0, 1) := jb_dec (jq0_s h) _ rfl rfl rfl
theorem dk_27 {c : ByteArray} {pc : Nat} (h : jq0 c.data.toList pc 27 = true) : decode c pc = .ok (.iload_n 1, 1) := jb_dec (jq0_s h) _ rfl rfl rfl
theorem dk_31 {c : ByteArray} {pc : Nat} (h : jq0 c.data.toList pc 31 = true) : decode c pc = .ok (.lload_n 1, 1) := jb_dec (jq0_s h) _ rfl rfl rfl
theorem dk_43 {c : ByteArray} {pc : Nat} (h : jq0 c.data.toList pc 43 = true) : decode c pc = .ok (.aload_n 1, 1) := jb_dec (jq0_s h) _ rfl rfl rfl
theorem dk_60 {c : ByteArray} {pc : Nat} (h : jq0 c.data.toList pc 60 = true) : decode c pc = .ok (.istore_n 1, 1) := jb_dec (jq0_s h) _ rfl rfl rfl
theorem dk_64 {c : ByteArray} {pc : Nat} (h : jq0 c.data.toList pc 64 = true) : decode c pc = .ok (.lstore_n 1, 1) := jb_dec (jq0_s h) _ rfl rfl rfl
theorem dk_76 {c : ByteArray} {pc : Nat} (h : jq0 c.data.toList pc 76 = true) : decode c pc = .ok (.astore_n 1, 1) := jb_dec (jq0_s h) _ rfl rfl rfl
theorem dk_28 {c : ByteArray} {pc : Nat} (h : jq0 c.data.toList pc 28 = true) : decode c pc = .ok (.iload_n 2, 1) := jb_dec (jq0_s h) _ rfl rfl rfl
theorem dk_32 {c : ByteArray} {pc : Nat} (h : jq0 c.data.toList pc 32 = true) : decode c pc = .ok (.lload_n 2, 1) := jb_dec (jq0_s h) _ rfl rfl rfl
theorem dk_44 {c : ByteArray} {pc : Nat} (h : jq0 c.data.toList pc 44 = true) : decode c pc = .ok (.aload_n 2, 1) := jb_dec (jq0_s h) _ rfl rfl rfl
theorem dk_61 {c : ByteArray} {pc : Nat} (h : jq0 c.data.toList pc 61 = true) : decode c pc = .ok (.istore_n 2, 1) := jb_dec (jq0_s h) _ rfl rfl rfl
theorem dk_65 {c : ByteArray} {pc : Nat} (h : jq0 c.data.toList pc 65 = true) : decode c pc = .ok (.lstore_n 2, 1) := jb_dec (jq0_s h) _ rfl rfl rfl
theorem dk_77 {c : ByteArray} {pc : Nat} (h : jq0 c.data.toList pc 77 = true) : decode c pc = .ok (.astore_n 2, 1) := jb_dec (jq0_s h) _ rfl rfl rfl
theorem dk_29 {c : ByteArray} {pc : Nat} (h : jq0 c.data.toList pc 29 = true) : decode c pc = .ok (.iload_n 3, 1) := jb_dec (jq0_s h) _ rfl rfl rfl
theorem dk_33 {c : ByteArray} {pc : Nat} (h : jq0 c.data.toList pc 33 = true) : decode c pc = .ok (.lload_n 3, 1) := jb_dec (jq0_s h) _ rfl rfl rfl
theorem dk_45 {c : ByteArray} {pc : Nat} (h : jq0 c.data.toList pc 45 = true) : decode c pc = .ok (.aload_n 3, 1) := jb_dec (jq0_s h) _ rfl rfl rfl
theorem dk_62 {c : ByteArray} {pc : Nat} (h : jq0 c.data.toList pc 62 = true) : decode c pc = .ok (.istore_n 3, 1) := jb_dec (jq0_s h) _ rfl rfl rfl
theorem dk_66 {c : ByteArray} {pc : Nat} (h : jq0 c.data.toList pc 66 = true) : decode c pc = .ok (.lstore_n 3, 1) := jb_dec (jq0_s h) _ rfl rfl rfl
theorem dk_78 {c : ByteArray} {pc : Nat} (h : jq0 c.data.toList pc 78 = true) : decode c pc = .ok (.astore_n 3, 1) := jb_dec (jq0_s h) _ rfl rfl rfl
theorem dk_2 {c : ByteArray} {pc : Nat} (h : jq0 c.data.toList pc 2 = true) : decode c pc = .ok (.iconst (-1), 1) := jb_dec (jq0_s h) _ rfl rfl rfl
theorem dk_3 {c : ByteArray} {pc : Nat} (h : jq0 c.data.toList pc 3 = true) : decode c pc = .ok (.iconst 0, 1) := jb_dec (jq0_s h) _ rfl rfl rfl
theorem dk_4 {c : ByteArray} {pc : Nat} (h : jq0 c.data.toList pc 4 = true) : decode c pc = .ok (.iconst 1, 1) := jb_dec (jq0_s h) _ rfl rfl rfl
theorem dk_5 {c : ByteArray} {pc : Nat} (h : jq0 c.data.toList pc 5 = true) : decode c pc = .ok (.iconst 2, 1) := jb_dec (jq0_s h) _ rfl rfl rfl
theorem dk_6 {c : ByteArray} {pc : Nat} (h : jq0 c.data.toList pc 6 = true) : decode c pc = .ok (.iconst 3, 1) := jb_dec (jq0_s h) _ rfl rfl rfl
theorem dk_7 {c : ByteArray} {pc : Nat} (h : jq0 c.data.toList pc 7 = true) : decode c pc = .ok (.iconst 4, 1) := jb_dec (jq0_s h) _ rfl rfl rfl
theorem dk_8 {c : ByteArray} {pc : Nat} (h : jq0 c.data.toList pc 8 = true) : decode c pc = .ok (.iconst 5, 1) := jb_dec (jq0_s h) _ rfl rfl rfl
theorem dk_9 {c : ByteArray} {pc : Nat} (h : jq0 c.data.toList pc 9 = true) : decode c pc = .ok (.lconst 0, 1) := jb_dec (jq0_s h) _ rfl rfl rfl
theorem dk_10 {c : ByteArray} {pc : Nat} (h : jq0 c.data.toList pc 10 = true) : decode c pc = .ok (.lconst 1, 1) := jb_dec (jq0_s h) _ rfl rfl rfl
theorem dk_46 {c : ByteArray} {pc : Nat} (h : jq0 c.data.toList pc 46 = true) : decode c pc = .ok (.iaload, 1) := jb_dec (jq0_s h) _ rfl rfl rfl
theorem dk_47 {c : ByteArray} {pc : Nat} (h : jq0 c.data.toList pc 47 = true) : decode c pc = .ok (.laload, 1) := jb_dec (jq0_s h) _ rfl rfl rfl
theorem dk_50 {c : ByteArray} {pc : Nat} (h : jq0 c.data.toList pc 50 = true) : decode c pc = .ok (.aaload, 1) := jb_dec (jq0_s h) _ rfl rfl rfl
theorem dk_51 {c : ByteArray} {pc : Nat} (h : jq0 c.data.toList pc 51 = true) : decode c pc = .ok (.baload, 1) := jb_dec (jq0_s h) _ rfl rfl rfl
theorem dk_79 {c : ByteArray} {pc : Nat} (h : jq0 c.data.toList pc 79 = true) : decode c pc = .ok (.iastore, 1) := jb_dec (jq0_s h) _ rfl rfl rfl
theorem dk_80 {c : ByteArray} {pc : Nat} (h : jq0 c.data.toList pc 80 = true) : decode c pc = .ok (.lastore, 1) := jb_dec (jq0_s h) _ rfl rfl rfl
theorem dk_83 {c : ByteArray} {pc : Nat} (h : jq0 c.data.toList pc 83 = true) : decode c pc = .ok (.aastore, 1) := jb_dec (jq0_s h) _ rfl rfl rfl
theorem dk_84 {c : ByteArray} {pc : Nat} (h : jq0 c.data.toList pc 84 = true) : decode c pc = .ok (.bastore, 1) := jb_dec (jq0_s h) _ rfl rfl rfl
theorem dk_87 {c : ByteArray} {pc : Nat} (h : jq0 c.data.toList pc 87 = true) : decode c pc = .ok (.pop, 1) := jb_dec (jq0_s h) _ rfl rfl rfl
theorem dk_89 {c : ByteArray} {pc : Nat} (h : jq0 c.data.toList pc 89 = true) : decode c pc = .ok (.dup, 1) := jb_dec (jq0_s h) _ rfl rfl rfl
theorem dk_90 {c : ByteArray} {pc : Nat} (h : jq0 c.data.toList pc 90 = true) : decode c pc = .ok (.dup_x1, 1) := jb_dec (jq0_s h) _ rfl rfl rfl
theorem dk_92 {c : ByteArray} {pc : Nat} (h : jq0 c.data.toList pc 92 = true) : decode c pc = .ok (.dup2, 1) := jb_dec (jq0_s h) _ rfl rfl rfl
theorem dk_96 {c : ByteArray} {pc : Nat} (h : jq0 c.data.toList pc 96 = true) : decode c pc = .ok (.iadd, 1) := jb_dec (jq0_s h) _ rfl rfl rfl
theorem dk_97 {c : ByteArray} {pc : Nat} (h : jq0 c.data.toList pc 97 = true) : decode c pc = .ok (.ladd, 1) := jb_dec (jq0_s h) _ rfl rfl rfl
theorem dk_100 {c : ByteArray} {pc : Nat} (h : jq0 c.data.toList pc 100 = true) : decode c pc = .ok (.isub, 1) := jb_dec (jq0_s h) _ rfl rfl rfl
theorem dk_101 {c : ByteArray} {pc : Nat} (h : jq0 c.data.toList pc 101 = true) : decode c pc = .ok (.lsub, 1) := jb_dec (jq0_s h) _ rfl rfl rfl
theorem dk_104 {c : ByteArray} {pc : Nat} (h : jq0 c.data.toList pc 104 = true) : decode c pc = .ok (.imul, 1) := jb_dec (jq0_s h) _ rfl rfl rfl
theorem dk_108 {c : ByteArray} {pc : Nat} (h : jq0 c.data.toList pc 108 = true) : decode c pc = .ok (.idiv, 1) := jb_dec (jq0_s h) _ rfl rfl rfl
theorem dk_112 {c : ByteArray} {pc : Nat} (h : jq0 c.data.toList pc 112 = true) : decode c pc = .ok (.irem, 1) := jb_dec (jq0_s h) _ rfl rfl rfl
theorem dk_116 {c : ByteArray} {pc : Nat} (h : jq0 c.data.toList pc 116 = true) : decode c pc = .ok (.ineg, 1) := jb_dec (jq0_s h) _ rfl rfl rfl
theorem dk_120 {c : ByteArray} {pc : Nat} (h : jq0 c.data.toList pc 120 = true) : decode c pc = .ok (.ishl, 1) := jb_dec (jq0_s h) _ rfl rfl rfl
theorem dk_121 {c : ByteArray} {pc : Nat} (h : jq0 c.data.toList pc 121 = true) : decode c pc = .ok (.lshl, 1) := jb_dec (jq0_s h) _ rfl rfl rfl
theorem dk_122 {c : ByteArray} {pc : Nat} (h : jq0 c.data.toList pc 122 = true) : decode c pc = .ok (.ishr, 1) := jb_dec (jq0_s h) _ rfl rfl rfl
theorem dk_123 {c : ByteArray} {pc : Nat} (h : jq0 c.data.toList pc 123 = true) : decode c pc = .ok (.lshr, 1) := jb_dec (jq0_s h) _ rfl rfl rfl
theorem dk_124 {c : ByteArray} {pc : Nat} (h : jq0 c.data.toList pc 124 = true) : decode c pc = .ok (.iushr, 1) := jb_dec (jq0_s h) _ rfl rfl rfl
theorem dk_125 {c : ByteArray} {pc : Nat} (h : jq0 c.data.toList pc 125 = true) : decode c pc = .ok (.lushr, 1) := jb_dec (jq0_s h) _ rfl rfl rfl
theorem dk_126 {c : ByteArray} {pc : Nat} (h : jq0 c.data.toList pc 126 = true) : decode c pc = .ok (.iand, 1) := jb_dec (jq0_s h) _ rfl rfl rfl
theorem dk_127 {c : ByteArray} {pc : Nat} (h : jq0 c.data.toList pc 127 = true) : decode c pc = .ok (.land, 1) := jb_dec (jq0_s h) _ rfl rfl rfl
theorem dk_128 {c : ByteArray} {pc : Nat} (h : jq0 c.data.toList pc 128 = true) : decode c pc = .ok (.ior, 1) := jb_dec (jq0_s h) _ rfl rfl rfl
theorem dk_129 {c : ByteArray} {pc : Nat} (h : jq0 c.data.toList pc 129 = true) : decode c pc = .ok (.lor, 1) := jb_dec (jq0_s h) _ rfl rfl rfl
theorem dk_130 {c : ByteArray} {pc : Nat} (h : jq0 c.data.toList pc 130 = true) : decode c pc = .ok (.ixor, 1) := jb_dec (jq0_s h) _ rfl rfl rfl
theorem dk_131 {c : ByteArray} {pc : Nat} (h : jq0 c.data.toList pc 131 = true) : decode c pc = .ok (.lxor, 1) := jb_dec (jq0_s h) _ rfl rfl rfl
theorem dk_133 {c : ByteArray} {pc : Nat} (h : jq0 c.data.toList pc 133 = true) : decode c pc = .ok (.i2l, 1) := jb_dec (jq0_s h) _ rfl rfl rfl
theorem dk_136 {c : ByteArray} {pc : Nat} (h : jq0 c.data.toList pc 136 = true) : decode c pc = .ok (.l2i, 1) := jb_dec (jq0_s h) _ rfl rfl rfl
theorem dk_145 {c : ByteArray} {pc : Nat} (h : jq0 c.data.toList pc 145 = true) : decode c pc = .ok (.i2b, 1) := jb_dec (jq0_s h) _ rfl rfl rfl
theorem dk_146 {c : ByteArray} {pc : Nat} (h : jq0 c.data.toList pc 146 = true) : decode c pc = .ok (.i2c, 1) := jb_dec (jq0_s h) _ rfl rfl rfl
theorem dk_148 {c : ByteArray} {pc : Nat} (h : jq0 c.data.toList pc 148 = true) : decode c pc = .ok (.lcmp, 1) := jb_dec (jq0_s h) _ rfl rfl rfl
theorem dk_172 {c : ByteArray} {pc : Nat} (h : jq0 c.data.toList pc 172 = true) : decode c pc = .ok (.ireturn, 1) := jb_dec (jq0_s h) _ rfl rfl rfl
theorem dk_173 {c : ByteArray} {pc : Nat} (h : jq0 c.data.toList pc 173 = true) : decode c pc = .ok (.lreturn, 1) := jb_dec (jq0_s h) _ rfl rfl rfl
theorem dk_176 {c : ByteArray} {pc : Nat} (h : jq0 c.data.toList pc 176 = true) : decode c pc = .ok (.areturn, 1) := jb_dec (jq0_s h) _ rfl rfl rfl
theorem dk_177 {c : ByteArray} {pc : Nat} (h : jq0 c.data.toList pc 177 = true) : decode c pc = .ok (.return_, 1) := jb_dec (jq0_s h) _ rfl rfl rfl
theorem dk_190 {c : ByteArray} {pc : Nat} (h : jq0 c.data.toList pc 190 = true) : decode c pc = .ok (.arraylength, 1) := jb_dec (jq0_s h) _ rfl rfl rfl
theorem dk_191 {c : ByteArray} {pc : Nat} (h : jq0 c.data.toList pc 191 = true) : decode c pc = .ok (.athrow, 1) := jb_dec (jq0_s h) _ rfl rfl rfl
theorem dk_21 {c : ByteArray} {pc n : Nat} (h : jq1 c.data.toList pc 21 n = true) : decode c pc = .ok (.iload n, 2) := by
  obtain ⟨b1, h0, h1, e⟩ := jq1_s h
  exact jb_dec h0 _ rfl (by show (Reader.u1 >>= fun x => Pure.pure (Instr.iload x) : Decoder Instr).runAt c (pc + 1) = _; rw [jb_bind (jb_u1 h1), e]; rfl) rfl
theorem dk_22 {c : ByteArray} {pc n : Nat} (h : jq1 c.data.toList pc 22 n = true) : decode c pc = .ok (.lload n, 2) := by
  obtain ⟨b1, h0, h1, e⟩ := jq1_s h
  exact jb_dec h0 _ rfl (by show (Reader.u1 >>= fun x => Pure.pure (Instr.lload x) : Decoder Instr).runAt c (pc + 1) = _; rw [jb_bind (jb_u1 h1), e]; rfl) rfl
theorem dk_25 {c : ByteArray} {pc n : Nat} (h : jq1 c.data.toList pc 25 n = true) : decode c pc = .ok (.aload n, 2) := by
  obtain ⟨b1, h0, h1, e⟩ := jq1_s h
  exact jb_dec h0 _ rfl (by show (Reader.u1 >>= fun x => Pure.pure (Instr.aload x) : Decoder Instr).runAt c (pc + 1) = _; rw [jb_bind (jb_u1 h1), e]; rfl) rfl
theorem dk_54 {c : ByteArray} {pc n : Nat} (h : jq1 c.data.toList pc 54 n = true) : decode c pc = .ok (.istore n, 2) := by
  obtain ⟨b1, h0, h1, e⟩ := jq1_s h
  exact jb_dec h0 _ rfl (by show (Reader.u1 >>= fun x => Pure.pure (Instr.istore x) : Decoder Instr).runAt c (pc + 1) = _; rw [jb_bind (jb_u1 h1), e]; rfl) rfl
theorem dk_55 {c : ByteArray} {pc n : Nat} (h : jq1 c.data.toList pc 55 n = true) : decode c pc = .ok (.lstore n, 2) := by
  obtain ⟨b1, h0, h1, e⟩ := jq1_s h
  exact jb_dec h0 _ rfl (by show (Reader.u1 >>= fun x => Pure.pure (Instr.lstore x) : Decoder Instr).runAt c (pc + 1) = _; rw [jb_bind (jb_u1 h1), e]; rfl) rfl
theorem dk_58 {c : ByteArray} {pc n : Nat} (h : jq1 c.data.toList pc 58 n = true) : decode c pc = .ok (.astore n, 2) := by
  obtain ⟨b1, h0, h1, e⟩ := jq1_s h
  exact jb_dec h0 _ rfl (by show (Reader.u1 >>= fun x => Pure.pure (Instr.astore x) : Decoder Instr).runAt c (pc + 1) = _; rw [jb_bind (jb_u1 h1), e]; rfl) rfl
theorem dk_18 {c : ByteArray} {pc n : Nat} (h : jq1 c.data.toList pc 18 n = true) : decode c pc = .ok (.ldc n, 2) := by
  obtain ⟨b1, h0, h1, e⟩ := jq1_s h
  exact jb_dec h0 _ rfl (by show (Reader.u1 >>= fun x => Pure.pure (Instr.ldc x) : Decoder Instr).runAt c (pc + 1) = _; rw [jb_bind (jb_u1 h1), e]; rfl) rfl
theorem dk_16 {c : ByteArray} {pc : Nat} {n : Int} (h : jqs1 c.data.toList pc 16 n = true) : decode c pc = .ok (.bipush n, 2) := by
  obtain ⟨b1, h0, h1, e⟩ := jqs1_s h
  exact jb_dec h0 _ rfl (by show (Reader.s1 >>= fun x => Pure.pure (Instr.bipush x) : Decoder Instr).runAt c (pc + 1) = _; rw [jb_bind (jb_s1 h1), e]; rfl) rfl
theorem dk_178 {c : ByteArray} {pc n : Nat} (h : jq2 c.data.toList pc 178 n = true) : decode c pc = .ok (.getstatic n, 3) := by
  obtain ⟨b1, b2, h0, h1, h2, e⟩ := jq2_s h
  exact jb_dec h0 _ rfl (by show (Reader.u2 >>= fun x => Pure.pure (Instr.getstatic x) : Decoder Instr).runAt c (pc + 1) = _; rw [jb_bind (jb_u2 h1 h2), e]; rfl) rfl
theorem dk_180 {c : ByteArray} {pc n : Nat} (h : jq2 c.data.toList pc 180 n = true) : decode c pc = .ok (.getfield n, 3) := by
  obtain ⟨b1, b2, h0, h1, h2, e⟩ := jq2_s h
  exact jb_dec h0 _ rfl (by show (Reader.u2 >>= fun x => Pure.pure (Instr.getfield x) : Decoder Instr).runAt c (pc + 1) = _; rw [jb_bind (jb_u2 h1 h2), e]; rfl) rfl
theorem dk_181 {c : ByteArray} {pc n : Nat} (h : jq2 c.data.toList pc 181 n = true) : decode c pc = .ok (.putfield n, 3) := by
  obtain ⟨b1, b2, h0, h1, h2, e⟩ := jq2_s h
  exact jb_dec h0 _ rfl (by show (Reader.u2 >>= fun x => Pure.pure (Instr.putfield x) : Decoder Instr).runAt c (pc + 1) = _; rw [jb_bind (jb_u2 h1 h2), e]; rfl) rfl
theorem dk_182 {c : ByteArray} {pc n : Nat} (h : jq2 c.data.toList pc 182 n = true) : decode c pc = .ok (.invokevirtual n, 3) := by
  obtain ⟨b1, b2, h0, h1, h2, e⟩ := jq2_s h
  exact jb_dec h0 _ rfl (by show (Reader.u2 >>= fun x => Pure.pure (Instr.invokevirtual x) : Decoder Instr).runAt c (pc + 1) = _; rw [jb_bind (jb_u2 h1 h2), e]; rfl) rfl
theorem dk_183 {c : ByteArray} {pc n : Nat} (h : jq2 c.data.toList pc 183 n = true) : decode c pc = .ok (.invokespecial n, 3) := by
  obtain ⟨b1, b2, h0, h1, h2, e⟩ := jq2_s h
  exact jb_dec h0 _ rfl (by show (Reader.u2 >>= fun x => Pure.pure (Instr.invokespecial x) : Decoder Instr).runAt c (pc + 1) = _; rw [jb_bind (jb_u2 h1 h2), e]; rfl) rfl
theorem dk_184 {c : ByteArray} {pc n : Nat} (h : jq2 c.data.toList pc 184 n = true) : decode c pc = .ok (.invokestatic n, 3) := by
  obtain ⟨b1, b2, h0, h1, h2, e⟩ := jq2_s h
  exact jb_dec h0 _ rfl (by show (Reader.u2 >>= fun x => Pure.pure (Instr.invokestatic x) : Decoder Instr).runAt c (pc + 1) = _; rw [jb_bind (jb_u2 h1 h2), e]; rfl) rfl
theorem dk_187 {c : ByteArray} {pc n : Nat} (h : jq2 c.data.toList pc 187 n = true) : decode c pc = .ok (.new n, 3) := by
  obtain ⟨b1, b2, h0, h1, h2, e⟩ := jq2_s h
  exact jb_dec h0 _ rfl (by show (Reader.u2 >>= fun x => Pure.pure (Instr.new x) : Decoder Instr).runAt c (pc + 1) = _; rw [jb_bind (jb_u2 h1 h2), e]; rfl) rfl
theorem dk_189 {c : ByteArray} {pc n : Nat} (h : jq2 c.data.toList pc 189 n = true) : decode c pc = .ok (.anewarray n, 3) := by
  obtain ⟨b1, b2, h0, h1, h2, e⟩ := jq2_s h
  exact jb_dec h0 _ rfl (by show (Reader.u2 >>= fun x => Pure.pure (Instr.anewarray x) : Decoder Instr).runAt c (pc + 1) = _; rw [jb_bind (jb_u2 h1 h2), e]; rfl) rfl
theorem dk_19 {c : ByteArray} {pc n : Nat} (h : jq2 c.data.toList pc 19 n = true) : decode c pc = .ok (.ldc_w n, 3) := by
  obtain ⟨b1, b2, h0, h1, h2, e⟩ := jq2_s h
  exact jb_dec h0 _ rfl (by show (Reader.u2 >>= fun x => Pure.pure (Instr.ldc_w x) : Decoder Instr).runAt c (pc + 1) = _; rw [jb_bind (jb_u2 h1 h2), e]; rfl) rfl
theorem dk_20 {c : ByteArray} {pc n : Nat} (h : jq2 c.data.toList pc 20 n = true) : decode c pc = .ok (.ldc2_w n, 3) := by
  obtain ⟨b1, b2, h0, h1, h2, e⟩ := jq2_s h
  exact jb_dec h0 _ rfl (by show (Reader.u2 >>= fun x => Pure.pure (Instr.ldc2_w x) : Decoder Instr).runAt c (pc + 1) = _; rw [jb_bind (jb_u2 h1 h2), e]; rfl) rfl
theorem dk_17 {c : ByteArray} {pc : Nat} {n : Int} (h : jqs2 c.data.toList pc 17 n = true) : decode c pc = .ok (.sipush n, 3) := by
  obtain ⟨b1, b2, h0, h1, h2, e⟩ := jqs2_s h
  exact jb_dec h0 _ rfl (by show (Reader.s2 >>= fun x => Pure.pure (Instr.sipush x) : Decoder Instr).runAt c (pc + 1) = _; rw [jb_bind (jb_s2 h1 h2), e]; rfl) rfl
theorem dk_167 {c : ByteArray} {pc : Nat} {n : Int} (h : jqs2 c.data.toList pc 167 n = true) : decode c pc = .ok (.goto n, 3) := by
  obtain ⟨b1, b2, h0, h1, h2, e⟩ := jqs2_s h
  exact jb_dec h0 _ rfl (by show (Reader.s2 >>= fun x => Pure.pure (Instr.goto x) : Decoder Instr).runAt c (pc + 1) = _; rw [jb_bind (jb_s2 h1 h2), e]; rfl) rfl
theorem dk_198 {c : ByteArray} {pc : Nat} {n : Int} (h : jqs2 c.data.toList pc 198 n = true) : decode c pc = .ok (.ifnull n, 3) := by
  obtain ⟨b1, b2, h0, h1, h2, e⟩ := jqs2_s h
  exact jb_dec h0 _ rfl (by show (Reader.s2 >>= fun x => Pure.pure (Instr.ifnull x) : Decoder Instr).runAt c (pc + 1) = _; rw [jb_bind (jb_s2 h1 h2), e]; rfl) rfl
theorem dk_199 {c : ByteArray} {pc : Nat} {n : Int} (h : jqs2 c.data.toList pc 199 n = true) : decode c pc = .ok (.ifnonnull n, 3) := by
  obtain ⟨b1, b2, h0, h1, h2, e⟩ := jqs2_s h
  exact jb_dec h0 _ rfl (by show (Reader.s2 >>= fun x => Pure.pure (Instr.ifnonnull x) : Decoder Instr).runAt c (pc + 1) = _; rw [jb_bind (jb_s2 h1 h2), e]; rfl) rfl
theorem dk_153 {c : ByteArray} {pc : Nat} {n : Int} (h : jqs2 c.data.toList pc 153 n = true) : decode c pc = .ok (.ifCond .eq n, 3) := by
  obtain ⟨b1, b2, h0, h1, h2, e⟩ := jqs2_s h
  exact jb_dec h0 _ rfl (by show (Reader.s2 >>= fun x => Pure.pure (Instr.ifCond .eq x) : Decoder Instr).runAt c (pc + 1) = _; rw [jb_bind (jb_s2 h1 h2), e]; rfl) rfl
theorem dk_159 {c : ByteArray} {pc : Nat} {n : Int} (h : jqs2 c.data.toList pc 159 n = true) : decode c pc = .ok (.if_icmp .eq n, 3) := by
  obtain ⟨b1, b2, h0, h1, h2, e⟩ := jqs2_s h
  exact jb_dec h0 _ rfl (by show (Reader.s2 >>= fun x => Pure.pure (Instr.if_icmp .eq x) : Decoder Instr).runAt c (pc + 1) = _; rw [jb_bind (jb_s2 h1 h2), e]; rfl) rfl
theorem dk_154 {c : ByteArray} {pc : Nat} {n : Int} (h : jqs2 c.data.toList pc 154 n = true) : decode c pc = .ok (.ifCond .ne n, 3) := by
  obtain ⟨b1, b2, h0, h1, h2, e⟩ := jqs2_s h
  exact jb_dec h0 _ rfl (by show (Reader.s2 >>= fun x => Pure.pure (Instr.ifCond .ne x) : Decoder Instr).runAt c (pc + 1) = _; rw [jb_bind (jb_s2 h1 h2), e]; rfl) rfl
theorem dk_160 {c : ByteArray} {pc : Nat} {n : Int} (h : jqs2 c.data.toList pc 160 n = true) : decode c pc = .ok (.if_icmp .ne n, 3) := by
  obtain ⟨b1, b2, h0, h1, h2, e⟩ := jqs2_s h
  exact jb_dec h0 _ rfl (by show (Reader.s2 >>= fun x => Pure.pure (Instr.if_icmp .ne x) : Decoder Instr).runAt c (pc + 1) = _; rw [jb_bind (jb_s2 h1 h2), e]; rfl) rfl
theorem dk_155 {c : ByteArray} {pc : Nat} {n : Int} (h : jqs2 c.data.toList pc 155 n = true) : decode c pc = .ok (.ifCond .lt n, 3) := by
  obtain ⟨b1, b2, h0, h1, h2, e⟩ := jqs2_s h
  exact jb_dec h0 _ rfl (by show (Reader.s2 >>= fun x => Pure.pure (Instr.ifCond .lt x) : Decoder Instr).runAt c (pc + 1) = _; rw [jb_bind (jb_s2 h1 h2), e]; rfl) rfl
theorem dk_161 {c : ByteArray} {pc : Nat} {n : Int} (h : jqs2 c.data.toList pc 161 n = true) : decode c pc = .ok (.if_icmp .lt n, 3) := by
  obtain ⟨b1, b2, h0, h1, h2, e⟩ := jqs2_s h
  exact jb_dec h0 _ rfl (by show (Reader.s2 >>= fun x => Pure.pure (Instr.if_icmp .lt x) : Decoder Instr).runAt c (pc + 1) = _; rw [jb_bind (jb_s2 h1 h2), e]; rfl) rfl
theorem dk_156 {c : ByteArray} {pc : Nat} {n : Int} (h : jqs2 c.data.toList pc 156 n = true) : decode c pc = .ok (.ifCond .ge n, 3) := by
  obtain ⟨b1, b2, h0, h1, h2, e⟩ := jqs2_s h
  exact jb_dec h0 _ rfl (by show (Reader.s2 >>= fun x => Pure.pure (Instr.ifCond .ge x) : Decoder Instr).runAt c (pc + 1) = _; rw [jb_bind (jb_s2 h1 h2), e]; rfl) rfl
theorem dk_162 {c : ByteArray} {pc : Nat} {n : Int} (h : jqs2 c.data.toList pc 162 n = true) : decode c pc = .ok (.if_icmp .ge n, 3) := by
  obtain ⟨b1, b2, h0, h1, h2, e⟩ := jqs2_s h
  exact jb_dec h0 _ rfl (by show (Reader.s2 >>= fun x => Pure.pure (Instr.if_icmp .ge x) : Decoder Instr).runAt c (pc + 1) = _; rw [jb_bind (jb_s2 h1 h2), e]; rfl) rfl
theorem dk_157 {c : ByteArray} {pc : Nat} {n : Int} (h : jqs2 c.data.toList pc 157 n = true) : decode c pc = .ok (.ifCond .gt n, 3) := by
  obtain ⟨b1, b2, h0, h1, h2, e⟩ := jqs2_s h
  exact jb_dec h0 _ rfl (by show (Reader.s2 >>= fun x => Pure.pure (Instr.ifCond .gt x) : Decoder Instr).runAt c (pc + 1) = _; rw [jb_bind (jb_s2 h1 h2), e]; rfl) rfl
theorem dk_163 {c : ByteArray} {pc : Nat} {n : Int} (h : jqs2 c.data.toList pc 163 n = true) : decode c pc = .ok (.if_icmp .gt n, 3) := by
  obtain ⟨b1, b2, h0, h1, h2, e⟩ := jqs2_s h
  exact jb_dec h0 _ rfl (by show (Reader.s2 >>= fun x => Pure.pure (Instr.if_icmp .gt x) : Decoder Instr).runAt c (pc + 1) = _; rw [jb_bind (jb_s2 h1 h2), e]; rfl) rfl
theorem dk_158 {c : ByteArray} {pc : Nat} {n : Int} (h : jqs2 c.data.toList pc 158 n = true) : decode c pc = .ok (.ifCond .le n, 3) := by
  obtain ⟨b1, b2, h0, h1, h2, e⟩ := jqs2_s h
  exact jb_dec h0 _ rfl (by show (Reader.s2 >>= fun x => Pure.pure (Instr.ifCond .le x) : Decoder Instr).runAt c (pc + 1) = _; rw [jb_bind (jb_s2 h1 h2), e]; rfl) rfl
theorem dk_164 {c : ByteArray} {pc : Nat} {n : Int} (h : jqs2 c.data.toList pc 164 n = true) : decode c pc = .ok (.if_icmp .le n, 3) := by
  obtain ⟨b1, b2, h0, h1, h2, e⟩ := jqs2_s h
  exact jb_dec h0 _ rfl (by show (Reader.s2 >>= fun x => Pure.pure (Instr.if_icmp .le x) : Decoder Instr).runAt c (pc + 1) = _; rw [jb_bind (jb_s2 h1 h2), e]; rfl) rfl
theorem dk_132 {c : ByteArray} {pc k : Nat} {n : Int} (h : jq11 c.data.toList pc 132 k n = true) : decode c pc = .ok (.iinc k n, 3) := by
  obtain ⟨b1, b2, h0, h1, h2, e, e2⟩ := jq11_s h
  exact jb_dec h0 _ rfl (by show (Reader.u1 >>= fun x => Reader.s1 >>= fun y => Pure.pure (Instr.iinc x y) : Decoder Instr).runAt c (pc + 1) = _; rw [jb_bind (jb_u1 h1), jb_bind (jb_s1 h2), e, e2]; rfl) rfl
theorem dk_188_boolean {c : ByteArray} {pc : Nat} (h : jq1 c.data.toList pc 188 4 = true) : decode c pc = .ok (.newarray .boolean, 2) := by
  obtain ⟨b1, h0, h1, e⟩ := jq1_s h
  exact jb_dec h0 _ rfl (by show (Reader.u1 >>= _ : Decoder Instr).runAt c (pc + 1) = _; rw [jb_bind (jb_u1 h1), e]; rfl) rfl
theorem dk_188_char {c : ByteArray} {pc : Nat} (h : jq1 c.data.toList pc 188 5 = true) : decode c pc = .ok (.newarray .char, 2) := by
  obtain ⟨b1, h0, h1, e⟩ := jq1_s h
  exact jb_dec h0 _ rfl (by show (Reader.u1 >>= _ : Decoder Instr).runAt c (pc + 1) = _; rw [jb_bind (jb_u1 h1), e]; rfl) rfl
theorem dk_188_float {c : ByteArray} {pc : Nat} (h : jq1 c.data.toList pc 188 6 = true) : decode c pc = .ok (.newarray .float, 2) := by
  obtain ⟨b1, h0, h1, e⟩ := jq1_s h
  exact jb_dec h0 _ rfl (by show (Reader.u1 >>= _ : Decoder Instr).runAt c (pc + 1) = _; rw [jb_bind (jb_u1 h1), e]; rfl) rfl
theorem dk_188_double {c : ByteArray} {pc : Nat} (h : jq1 c.data.toList pc 188 7 = true) : decode c pc = .ok (.newarray .double, 2) := by
  obtain ⟨b1, h0, h1, e⟩ := jq1_s h
  exact jb_dec h0 _ rfl (by show (Reader.u1 >>= _ : Decoder Instr).runAt c (pc + 1) = _; rw [jb_bind (jb_u1 h1), e]; rfl) rfl
theorem dk_188_byte {c : ByteArray} {pc : Nat} (h : jq1 c.data.toList pc 188 8 = true) : decode c pc = .ok (.newarray .byte, 2) := by
  obtain ⟨b1, h0, h1, e⟩ := jq1_s h
  exact jb_dec h0 _ rfl (by show (Reader.u1 >>= _ : Decoder Instr).runAt c (pc + 1) = _; rw [jb_bind (jb_u1 h1), e]; rfl) rfl
theorem dk_188_short {c : ByteArray} {pc : Nat} (h : jq1 c.data.toList pc 188 9 = true) : decode c pc = .ok (.newarray .short, 2) := by
  obtain ⟨b1, h0, h1, e⟩ := jq1_s h
  exact jb_dec h0 _ rfl (by show (Reader.u1 >>= _ : Decoder Instr).runAt c (pc + 1) = _; rw [jb_bind (jb_u1 h1), e]; rfl) rfl
theorem dk_188_int {c : ByteArray} {pc : Nat} (h : jq1 c.data.toList pc 188 10 = true) : decode c pc = .ok (.newarray .int, 2) := by
  obtain ⟨b1, h0, h1, e⟩ := jq1_s h
  exact jb_dec h0 _ rfl (by show (Reader.u1 >>= _ : Decoder Instr).runAt c (pc + 1) = _; rw [jb_bind (jb_u1 h1), e]; rfl) rfl
theorem dk_188_long {c : ByteArray} {pc : Nat} (h : jq1 c.data.toList pc 188 11 = true) : decode c pc = .ok (.newarray .long, 2) := by
  obtain ⟨b1, h0, h1, e⟩ := jq1_s h
  exact jb_dec h0 _ rfl (by show (Reader.u1 >>= _ : Decoder Instr).runAt c (pc + 1) = _; rw [jb_bind (jb_u1 h1), e]; rfl) rfl
