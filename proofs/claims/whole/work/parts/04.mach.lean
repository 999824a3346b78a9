/-! THE MACHINE LAYER. An abstract heap: addresses below 1000 stand for what lies outside (constants), those from 1000 on for the cells that this run makes, in their order.
sh a: the shape of cell a: (0, ci) an object of class ci; (1, n) ints, (2, n) bytes, (3, n) booleans, (4, n) longs, (5, n) parties, (6, n) texts; (7 and on, _) nothing is said. I, L, R: ints, longs, references by address and slot. -/
abbrev jHS : Type := Nat × (Nat → Nat × Nat) × (Nat → Nat → Int32) × (Nat → Nat → Int64) × (Nat → Nat → Option Nat)
abbrev jWD : Type := State × va_G × (Nat → ClassId) × (Nat → Nat)
abbrev jMI : Type := MethodName × ByteArray × Nat × Option FieldType × List (Nat × Nat × Nat × Nat)
def jB (w : jWD) : Nat := w.1.heap.size
def jphi (w : jWD) (x : Nat) : Nat := if x < 1000 then w.2.2.2 x else jB w + (x - 1000)
def jvm (w : jWD) (v : Value) : Value := match v with
  | .ref x => .ref (jphi w x)
  | .int x => .int x
  | .long x => .long x
  | .float x => .float x
  | .double x => .double x
  | .null => .null
  | .retAddr x => .retAddr x
def jrf (w : jWD) (r : Option Nat) : Value := match r with
  | none => .null
  | some x => .ref (jphi w x)
def jlm (w : jWD) (ls : List (Nat × Value)) : List (Nat × Value) := ls.map fun q => (q.1, jvm w q.2)
def jkd (ty : FieldType) : Nat := match ty with
  | .long => 1
  | .object _ => 2
  | .array _ => 2
  | _ => 0
def jfv (w : jWD) (kd : Nat) (σ : jHS) (a k : Nat) : Value := match kd with
  | 0 => .int (σ.2.2.1 a k)
  | 1 => .long (σ.2.2.2.1 a k)
  | _ => jrf w (σ.2.2.2.2 a k)
def jtys (ci : Nat) : Nat → FieldType := match ci with
  | 0 => tyX0 | 1 => tyX1 | 2 => tyX2 | 3 => tyX3 | 4 => tyX4 | 5 => tyX5 | 6 => tyX6 | 7 => tyX7 | 8 => tyX8 | 9 => tyX9 | 10 => tyX10 | _ => tyX11
def jaty (t : Nat) : FieldType := match t with
  | 1 => .int | 2 => .byte | 3 => .boolean | 4 => .long | 5 => .object "EbbIsland$Party" | _ => .object "java/lang/String"
def jav (w : jWD) (t : Nat) (σ : jHS) (a : Nat) (j : Nat) : Value := match t with
  | 4 => .long (σ.2.2.2.1 a j)
  | 5 => jrf w (σ.2.2.2.2 a j)
  | 6 => jrf w (σ.2.2.2.2 a j)
  | _ => .int (σ.2.2.1 a j)
def jobj (w : jWD) (σ : jHS) (H : Heap) (a ci : Nat) : Prop := 1000 ≤ a ∧ a < σ.1 ∧ ∃ r : vw_C, vwCl[ci]? = some r ∧ t_OB (jphi w a) (w.2.1.1 ci) r.2.2 (w.2.1.2 ci) H (fun k => jfv w (jkd (jtys ci k)) σ a k)
def jarr (w : jWD) (σ : jHS) (H : Heap) (a t n : Nat) : Prop := 1000 ≤ a ∧ a < σ.1 ∧ H[jphi w a]? = some (arrV (w.2.2.1 t) n (jav w t σ a))
def jRel (w : jWD) (σ : jHS) (H : Heap) : Prop := 1000 ≤ σ.1 ∧ H.size = jB w + (σ.1 - 1000) ∧ (∀ q : Nat, q < jB w → H[q]? = w.1.heap[q]?) ∧ (∀ a ci : Nat, σ.2.1 a = (0, ci) → jobj w σ H a ci) ∧ ∀ a t n : Nat, σ.2.1 a = (t, n) → 1 ≤ t → t ≤ 6 → jarr w σ H a t n
def jcl (ci : Nat) (r : vw_C) : Prop := (∀ c ∈ u_ws r.1 r.2.1 r.2.2, c ∈ lw_tbl) ∧ (∀ k, k < r.2.2 → parseFieldDescriptor (r.2.1 k).2.2.1 = some (jtys ci k)) ∧ ∀ a, a < r.2.2 → ∀ b, b < r.2.2 → a ≠ b → (r.2.1 a).2.1 ≠ (r.2.1 b).2.1
/-- what is known of the start: the words, the classes, the array classes, the constants -/
def jWok (w : jWD) (l : Launch) : Prop :=
  (∃ args0 : Array Value, ∀ c ∈ lw_tbl, c.before args0 w.1 = true) ∧ va_K w.2.1 vwCl [] w.1 ∧ (∀ t : Nat, 1 ≤ t → t ≤ 6 → ArrOfT w.1 (w.2.2.1 t) (jaty t) ∧ w.1.vm.findClass ("[" ++ (jaty t).toString) = some (w.2.2.1 t) ∧ va_RA w.1 (w.2.2.1 t) (jaty t)) ∧
  (vx_Zq Bundle.tN "UNASSIGNED_STACK" Bundle.steD (fun q => jB w ≤ q) w.1 w.1.heap ∧ vx_Zq Bundle.tN "SUPPRESSED_SENTINEL" Bundle.listD (fun q => jB w ≤ q) w.1 w.1.heap) ∧ l.stackTraces = false ∧
  (∀ (i : Nat) (q : String × Nat × String × List Int32), jsr[i]? = some q → vk_R q.1 q.2.1 q.2.2.1 (w.2.2.2 i) w.1 ∧ va_O "java/lang/String" (w.2.2.2 i) (fun q => jB w ≤ q) w.1 w.1.heap ∧ va_OF "java/lang/String" "coder" "B" (.int 0) (w.2.2.2 i) (fun q => jB w ≤ q) w.1 w.1.heap ∧ va_OF "java/lang/String" "value" "[B" (.ref (w.2.2.2 (500 + i))) (w.2.2.2 i) (fun q => jB w ≤ q) w.1 w.1.heap ∧ va_T .byte (w.2.2.2 (500 + i)) q.2.2.2.length (fun j => .int (q.2.2.2.getD j 0)) (fun q => jB w ≤ q) w.1 w.1.heap) ∧
  va_Z "java/lang/String" "COMPACT_STRINGS" "Z" (.int 1) (fun q => jB w ≤ q) w.1 w.1.heap ∧ (va_Z "jdk/internal/util/Preconditions" "SIOOBE_FORMATTER" "Ljava/util/function/BiFunction;" .null (fun q => jB w ≤ q) w.1 w.1.heap ∨ va_Z "jdk/internal/util/Preconditions" "SIOOBE_FORMATTER" "Ljava/util/function/BiFunction;" (.ref (w.2.2.2 998)) (fun q => jB w ≤ q) w.1 w.1.heap)
def jcw (M : jMI) : Cond := if M.2.2.2.2 = [] then .code M.1 M.2.1 M.2.2.1 M.2.2.2.1 else .codeWith M.1 M.2.1 M.2.2.1 M.2.2.2.1 M.2.2.2.2
def jrm (d mc ms : Nat) : Room := { frames := d + 6, cells := mc, slots := ms, locals := 100 * (d + 1) }
/-- where a body of M stands -/
def jFx (w : jWD) (l : Launch) (M : jMI) (p : Program) (s : State) (m : MethodId) (meth : Method) (c : Code) : Prop :=
  p.tables.exec = Jvm.exec ∧ c.code = M.2.1 ∧ c.maxLocals = M.2.2.1 ∧ meth.sig.returnType = M.2.2.2.1 ∧ meth.locks = false ∧ s.vm.findClass M.1.cls = some m.cls ∧ meth.name = M.1.name ∧ c.exceptionTable.toList = tableOf M.2.2.2.2 ∧ w.1.WarmedH s.vm ∧ jWok w l ∧ jB w ≤ s.heap.size ∧ ∀ q : Nat, q < jB w → s.heap[q]? = w.1.heap[q]?
def jQC (w : jWD) (Qn : Option Value → jHS → Prop) : Array Value → State → Outcome → State → Prop := fun _ _ o t => ∃ (v : Option Value) (σ : jHS), o = .returned (v.map (jvm w)) ∧ Qn v σ ∧ jRel w σ t.heap
def jXC (w : jWD) (Qx : String → jHS → Prop) : String → State → State → Prop := fun E _ t => ∃ σ : jHS, Qx E σ ∧ jRel w σ t.heap
def jfree (w : jWD) : Addr → Prop := fun q => jB w ≤ q
/-- from pc, with these locals, this stack and this heap, the body of M comes to its end with Qn (or throws with Qx); it makes at most kc cells of ks slots more -/
def jWP (w : jWD) (l : Launch) (M : jMI) (d kc ks : Nat) (Qn : Option Value → jHS → Prop) (Qx : String → jHS → Prop) (pc : Nat) (ls : List (Nat × Value)) (st : List Value) (σ : jHS) : Prop :=
  ∀ (p : Program) (e : Env) (s : State) (m : MethodId) (args : Array Value) (below : List Frame) (meth : Method) (c : Code) (H : Heap) (LS : Array Slot) (locs : List Loc) (cells slots mc ms : Nat),
    jFx w l M p s m meth c → jRel w σ H → (∀ q ∈ locs, jB w ≤ q.base) → s.heap.size ≤ H.size → lv_has LS M.2.2.1 (jlm w ls) → cells + kc ≤ mc → slots + ks ≤ ms →
    W p l e (jrm d mc ms) s m args below meth c H locs cells slots (vx_MQ below (jQC w Qn) (jXC w Qx) args s mc ms (jfree w)) (F0 m pc LS (st.map (jvm w)))
/-- the contract of M at these arguments and this heap -/
def jCt (w : jWD) (l : Launch) (M : jMI) (d kc ks : Nat) (as : List Value) (σ : jHS) (Qn : Option Value → jHS → Prop) (Qx : String → jHS → Prop) : Prop :=
  vx_Met l M.1 [jcw M] (jrm d kc ks) (fun args U => args = (as.map (jvm w)).toArray ∧ jRel w σ U.heap ∧ w.1.WarmedH U.vm) (jQC w Qn) (jXC w Qx) kc ks (jfree w)
