/-! THE LAW'S FRAME: JG, as J, but over any room RM, any end F, and with more that holds (Ex) -/
def kNCs : List (String × String) := [("java/lang/IllegalStateException", "java/lang/IllegalArgumentException"), ("java/lang/IndexOutOfBoundsException", "java/lang/IllegalArgumentException"), ("java/util/NoSuchElementException", "java/lang/IllegalArgumentException"), ("java/lang/ArithmeticException", "java/lang/IllegalArgumentException"), ("java/lang/IllegalArgumentException", "java/lang/IllegalStateException"), ("java/lang/IndexOutOfBoundsException", "java/lang/IllegalStateException"), ("java/util/NoSuchElementException", "java/lang/IllegalStateException"), ("java/lang/ArithmeticException", "java/lang/IllegalStateException"), ("java/lang/IllegalArgumentException", "java/lang/IndexOutOfBoundsException"), ("java/lang/IllegalStateException", "java/lang/IndexOutOfBoundsException"), ("java/util/NoSuchElementException", "java/lang/IndexOutOfBoundsException"), ("java/lang/ArithmeticException", "java/lang/IndexOutOfBoundsException"), ("java/lang/IllegalArgumentException", "java/util/NoSuchElementException"), ("java/lang/IllegalStateException", "java/util/NoSuchElementException"), ("java/lang/IndexOutOfBoundsException", "java/util/NoSuchElementException"), ("java/lang/ArithmeticException", "java/util/NoSuchElementException"), ("java/lang/IllegalArgumentException", "java/lang/ArithmeticException"), ("java/lang/IllegalStateException", "java/lang/ArithmeticException"), ("java/lang/IndexOutOfBoundsException", "java/lang/ArithmeticException"), ("java/util/NoSuchElementException", "java/lang/ArithmeticException")]
def NC (U : State) : Prop := ∀ q ∈ kNCs, va_Nc q.1 q.2 U
theorem NC.warm {s U : State} (hW : s.WarmedH U.vm) (h : NC s) : NC U := fun q hq => va_Nc.moved hW.alike (h q hq)
theorem NC.same {s U : State} (hv : s.vm = U.vm) (h : NC s) : NC U := fun q hq => va_Nc.moved (by rw [hv]; exact Vm.Alike.refl U.vm) (h q hq)
abbrev kEx : Type := Program → Launch → Env → State → MethodId → Array Value → List Frame → Method → Code → va_G → (Nat → Prop) → Prop
abbrev kFin : Type := List Frame → Array Value → State → va_G → (Nat → Prop) → State → Prop
def Cb (own : String) (cc : ByteArray) (nL : Nat) (cy : Nat → ClassId) (p : Program) (l : Launch) (s : State) (m : MethodId) (args : Array Value) (c : Code) (D : va_G) (A : Nat → Prop) : Prop :=
  p.tables.exec = Jvm.exec ∧ c.code = cc ∧ c.maxLocals = nL ∧ s.vm.findClass own = some m.cls ∧ (∀ w ∈ kT, w.before args s = true) ∧ KX cy D A s s.heap ∧ (∀ q, s.heap.size ≤ q → A q) ∧ l.stackTraces = false ∧ NC s
def JG (own : String) (cc : ByteArray) (nL : Nat) (cy : Nat → ClassId) (RM : Room) (Ex : kEx) (F : kFin) (pc : Nat) (lv : List (Nat × Value)) (st : List Value) (w : va_W) (cells slots : Nat) : Prop :=
  ∀ (p : Program) (l : Launch) (e : Env) (s : State) (m : MethodId) (args : Array Value) (below : List Frame) (meth : Method) (c : Code) (D : va_G) (A : Nat → Prop), Cb own cc nL cy p l s m args c D A → Ex p l e s m args below meth c D A →
    ∀ (H : Heap) (locs : List Loc) (ls : Array Slot), va_P D kCl w H → va_D A w → va_S A s.heap H locs → lv_has ls nL lv →
      W p l e RM s m args below meth c H locs cells slots (F below args s D A) (F0 m pc ls st)
/-- .. with q, of the class E, thrown at pc -/
def JX (own : String) (cc : ByteArray) (nL : Nat) (cy : Nat → ClassId) (RM : Room) (Ex : kEx) (F : kFin) (pc : Nat) (lv : List (Nat × Value)) (q : Nat) (E : String) (w : va_W) (cells slots : Nat) : Prop :=
  ∀ (p : Program) (l : Launch) (e : Env) (s : State) (m : MethodId) (args : Array Value) (below : List Frame) (meth : Method) (c : Code) (D : va_G) (A : Nat → Prop), Cb own cc nL cy p l s m args c D A → Ex p l e s m args below meth c D A →
    ∀ (H : Heap) (locs : List Loc) (ls : Array Slot) (rest : List Value) (ce : Cell), va_P D kCl w H → va_D A w → va_S A s.heap H locs → lv_has ls nL lv → H[q]? = some ce → ce.vm = .none → s.vm.findClass E = some ce.cls →
      vx_W p l e RM s m args below meth c H locs cells slots (F below args s D A) (F0 m pc ls rest) q
section LG
variable {own : String} {cc : ByteArray} {nL : Nat} {cy : Nat → ClassId} {RM : Room} {Ex : kEx} {F : kFin} {pc : Nat} {lv lv' : List (Nat × Value)} {st rest : List Value} {w : va_W} {cells slots : Nat}

theorem JG_iconst {n : Int} {v : Int32} (hv : Int32.ofInt n = v) (hd : decode cc pc = .ok (.iconst n, 1))
    (kk : JG own cc nL cy RM Ex F (pc + 1) lv (.int v :: st) w cells slots)
    : JG own cc nL cy RM Ex F pc lv st w cells slots := by
  intro p l e s m args below meth c D A C0 E0 H locs ls hP hD hS hll
  exact lv_iconst C0.1 C0.2.1  hd hv (kk p l e s m args below meth c D A C0 E0 H locs ls hP hD hS hll)

theorem JG_bipush {n : Int} {v : Int32} (hv : (Int8.ofInt n).toInt32 = v) (hd : decode cc pc = .ok (.bipush n, 2))
    (kk : JG own cc nL cy RM Ex F (pc + 2) lv (.int v :: st) w cells slots)
    : JG own cc nL cy RM Ex F pc lv st w cells slots := by
  intro p l e s m args below meth c D A C0 E0 H locs ls hP hD hS hll
  exact lv_bipush C0.1 C0.2.1  hd hv (kk p l e s m args below meth c D A C0 E0 H locs ls hP hD hS hll)

theorem JG_iload_n {x : Int32} (k : Nat) {f : Fin 4} (hk : lv[k]? = some ((f : Nat), .int x)) (hd : decode cc pc = .ok (.iload_n f, 1))
    (kk : JG own cc nL cy RM Ex F (pc + 1) lv (.int x :: st) w cells slots)
    : JG own cc nL cy RM Ex F pc lv st w cells slots := by
  intro p l e s m args below meth c D A C0 E0 H locs ls hP hD hS hll
  exact lv_iload_n C0.1 C0.2.1  hd rfl (lv_at hll k hk) (kk p l e s m args below meth c D A C0 E0 H locs ls hP hD hS hll)

theorem JG_iload {x : Int32} (k : Nat) {f : Nat} (hk : lv[k]? = some (f, .int x)) (hd : decode cc pc = .ok (.iload f, 2))
    (kk : JG own cc nL cy RM Ex F (pc + 2) lv (.int x :: st) w cells slots)
    : JG own cc nL cy RM Ex F pc lv st w cells slots := by
  intro p l e s m args below meth c D A C0 E0 H locs ls hP hD hS hll
  exact lv_iload C0.1 C0.2.1  hd (lv_at hll k hk) (kk p l e s m args below meth c D A C0 E0 H locs ls hP hD hS hll)

theorem JG_aload_n {x : Nat} (k : Nat) {f : Fin 4} (hk : lv[k]? = some ((f : Nat), .ref x)) (hd : decode cc pc = .ok (.aload_n f, 1))
    (kk : JG own cc nL cy RM Ex F (pc + 1) lv (.ref x :: st) w cells slots)
    : JG own cc nL cy RM Ex F pc lv st w cells slots := by
  intro p l e s m args below meth c D A C0 E0 H locs ls hP hD hS hll
  exact lv_aload_n C0.1 C0.2.1  hd rfl (lv_at hll k hk) (kk p l e s m args below meth c D A C0 E0 H locs ls hP hD hS hll)

theorem JG_aload {x : Nat} (k : Nat) {f : Nat} (hk : lv[k]? = some (f, .ref x)) (hd : decode cc pc = .ok (.aload f, 2))
    (kk : JG own cc nL cy RM Ex F (pc + 2) lv (.ref x :: st) w cells slots)
    : JG own cc nL cy RM Ex F pc lv st w cells slots := by
  intro p l e s m args below meth c D A C0 E0 H locs ls hP hD hS hll
  exact lv_aload C0.1 C0.2.1  hd (lv_at hll k hk) (kk p l e s m args below meth c D A C0 E0 H locs ls hP hD hS hll)

theorem JG_istore_n {x : Int32} {f : Fin 4} (hn : (f : Nat) < nL) (hl : kst (f : Nat) (.int x) lv = lv') (hd : decode cc pc = .ok (.istore_n f, 1))
    (kk : JG own cc nL cy RM Ex F (pc + 1) lv' rest w cells slots)
    : JG own cc nL cy RM Ex F pc lv (.int x :: rest) w cells slots := by
  intro p l e s m args below meth c D A C0 E0 H locs ls hP hD hS hll
  exact lv_istore_n C0.1 C0.2.1 hd rfl hll hn rfl (fun ls' hll' => kk p l e s m args below meth c D A C0 E0 H locs ls' hP hD hS (by rw [← hl]; exact kst_has hll'))

theorem JG_istore {x : Int32} {f : Nat} (hn : f < nL) (hl : kst f (.int x) lv = lv') (hd : decode cc pc = .ok (.istore f, 2))
    (kk : JG own cc nL cy RM Ex F (pc + 2) lv' rest w cells slots)
    : JG own cc nL cy RM Ex F pc lv (.int x :: rest) w cells slots := by
  intro p l e s m args below meth c D A C0 E0 H locs ls hP hD hS hll
  exact lv_istore C0.1 C0.2.1 hd hll hn rfl (fun ls' hll' => kk p l e s m args below meth c D A C0 E0 H locs ls' hP hD hS (by rw [← hl]; exact kst_has hll'))

theorem JG_astore_n {x : Nat} {f : Fin 4} (hn : (f : Nat) < nL) (hl : kst (f : Nat) (.ref x) lv = lv') (hd : decode cc pc = .ok (.astore_n f, 1))
    (kk : JG own cc nL cy RM Ex F (pc + 1) lv' rest w cells slots)
    : JG own cc nL cy RM Ex F pc lv (.ref x :: rest) w cells slots := by
  intro p l e s m args below meth c D A C0 E0 H locs ls hP hD hS hll
  exact lv_astore_n C0.1 C0.2.1 hd rfl hll hn rfl (fun ls' hll' => kk p l e s m args below meth c D A C0 E0 H locs ls' hP hD hS (by rw [← hl]; exact kst_has hll'))

theorem JG_astore {x : Nat} {f : Nat} (hn : f < nL) (hl : kst f (.ref x) lv = lv') (hd : decode cc pc = .ok (.astore f, 2))
    (kk : JG own cc nL cy RM Ex F (pc + 2) lv' rest w cells slots)
    : JG own cc nL cy RM Ex F pc lv (.ref x :: rest) w cells slots := by
  intro p l e s m args below meth c D A C0 E0 H locs ls hP hD hS hll
  exact lv_astore C0.1 C0.2.1 hd hll hn rfl (fun ls' hll' => kk p l e s m args below meth c D A C0 E0 H locs ls' hP hD hS (by rw [← hl]; exact kst_has hll'))

theorem JG_iinc {x v : Int32} {f : Nat} {n : Int} (k : Nat) (hk : lv[k]? = some (f, .int x)) (hv : x + Int32.ofInt n = v) (hn : f < nL) (hl : kst f (.int v) lv = lv') (hd : decode cc pc = .ok (.iinc f n, 3))
    (kk : JG own cc nL cy RM Ex F (pc + 3) lv' st w cells slots)
    : JG own cc nL cy RM Ex F pc lv st w cells slots := by
  intro p l e s m args below meth c D A C0 E0 H locs ls hP hD hS hll
  exact lv_iinc C0.1 C0.2.1 hd hll hk hv hn rfl (fun ls' hll' => kk p l e s m args below meth c D A C0 E0 H locs ls' hP hD hS (by rw [← hl]; exact kst_has hll'))

theorem JG_iadd {x y : Int32} (hd : decode cc pc = .ok (.iadd, 1))
    (kk : JG own cc nL cy RM Ex F (pc + 1) lv (.int (x + y) :: rest) w cells slots)
    : JG own cc nL cy RM Ex F pc lv (.int y :: .int x :: rest) w cells slots := by
  intro p l e s m args below meth c D A C0 E0 H locs ls hP hD hS hll
  exact lv_iadd C0.1 C0.2.1  hd  (kk p l e s m args below meth c D A C0 E0 H locs ls hP hD hS hll)

theorem JG_isub {x y : Int32} (hd : decode cc pc = .ok (.isub, 1))
    (kk : JG own cc nL cy RM Ex F (pc + 1) lv (.int (x - y) :: rest) w cells slots)
    : JG own cc nL cy RM Ex F pc lv (.int y :: .int x :: rest) w cells slots := by
  intro p l e s m args below meth c D A C0 E0 H locs ls hP hD hS hll
  exact lv_isub C0.1 C0.2.1  hd  (kk p l e s m args below meth c D A C0 E0 H locs ls hP hD hS hll)

theorem JG_iand {x y : Int32} (hd : decode cc pc = .ok (.iand, 1))
    (kk : JG own cc nL cy RM Ex F (pc + 1) lv (.int (x &&& y) :: rest) w cells slots)
    : JG own cc nL cy RM Ex F pc lv (.int y :: .int x :: rest) w cells slots := by
  intro p l e s m args below meth c D A C0 E0 H locs ls hP hD hS hll
  exact lv_iand C0.1 C0.2.1  hd  (kk p l e s m args below meth c D A C0 E0 H locs ls hP hD hS hll)

theorem JG_i2l {x : Int32} (hd : decode cc pc = .ok (.i2l, 1))
    (kk : JG own cc nL cy RM Ex F (pc + 1) lv (.long x.toInt64 :: rest) w cells slots)
    : JG own cc nL cy RM Ex F pc lv (.int x :: rest) w cells slots := by
  intro p l e s m args below meth c D A C0 E0 H locs ls hP hD hS hll
  exact lv_i2l C0.1 C0.2.1  hd rfl (kk p l e s m args below meth c D A C0 E0 H locs ls hP hD hS hll)

theorem JG_dup {v : Value} (hv : v.category = 1) (hd : decode cc pc = .ok (.dup, 1))
    (kk : JG own cc nL cy RM Ex F (pc + 1) lv (v :: v :: rest) w cells slots)
    : JG own cc nL cy RM Ex F pc lv (v :: rest) w cells slots := by
  intro p l e s m args below meth c D A C0 E0 H locs ls hP hD hS hll
  exact lv_dup C0.1 C0.2.1  hd hv (kk p l e s m args below meth c D A C0 E0 H locs ls hP hD hS hll)

theorem JG_pop {v : Value} (hv : v.category = 1) (hd : decode cc pc = .ok (.pop, 1))
    (kk : JG own cc nL cy RM Ex F (pc + 1) lv rest w cells slots)
    : JG own cc nL cy RM Ex F pc lv (v :: rest) w cells slots := by
  intro p l e s m args below meth c D A C0 E0 H locs ls hP hD hS hll
  exact lv_pop C0.1 C0.2.1  hd hv (kk p l e s m args below meth c D A C0 E0 H locs ls hP hD hS hll)

theorem JG_goto {off : Int} (tgt : Nat) (ht : (pc : Int) + off = (tgt : Int)) (hd : decode cc pc = .ok (.goto off, 3))
    (kk : JG own cc nL cy RM Ex F tgt lv st w cells slots)
    : JG own cc nL cy RM Ex F pc lv st w cells slots := by
  intro p l e s m args below meth c D A C0 E0 H locs ls hP hD hS hll
  exact lv_goto C0.1 C0.2.1 hd ht (kk p l e s m args below meth c D A C0 E0 H locs ls hP hD hS hll)

theorem JG_if_eq {x : Int32} {off : Int} (tgt : Nat) (ht : (pc : Int) + off = (tgt : Int)) (hd : decode cc pc = .ok (.ifCond .eq off, 3))
    (kt : x = 0 → JG own cc nL cy RM Ex F tgt lv rest w cells slots)
    (kf : ¬ x = 0 → JG own cc nL cy RM Ex F (pc + 3) lv rest w cells slots)
    : JG own cc nL cy RM Ex F pc lv (.int x :: rest) w cells slots := by
  intro p l e s m args below meth c D A C0 E0 H locs ls hP hD hS hll
  exact lv_if_eq C0.1 C0.2.1 hd ht (fun h9 => kt h9 p l e s m args below meth c D A C0 E0 H locs ls hP hD hS hll) (fun h9 => kf h9 p l e s m args below meth c D A C0 E0 H locs ls hP hD hS hll)

theorem JG_if_ne {x : Int32} {off : Int} (tgt : Nat) (ht : (pc : Int) + off = (tgt : Int)) (hd : decode cc pc = .ok (.ifCond .ne off, 3))
    (kt : ¬ x = 0 → JG own cc nL cy RM Ex F tgt lv rest w cells slots)
    (kf : x = 0 → JG own cc nL cy RM Ex F (pc + 3) lv rest w cells slots)
    : JG own cc nL cy RM Ex F pc lv (.int x :: rest) w cells slots := by
  intro p l e s m args below meth c D A C0 E0 H locs ls hP hD hS hll
  exact lv_if_ne C0.1 C0.2.1 hd ht (fun h9 => kt h9 p l e s m args below meth c D A C0 E0 H locs ls hP hD hS hll) (fun h9 => kf h9 p l e s m args below meth c D A C0 E0 H locs ls hP hD hS hll)

theorem JG_if_lt {x : Int32} {off : Int} (tgt : Nat) (ht : (pc : Int) + off = (tgt : Int)) (hd : decode cc pc = .ok (.ifCond .lt off, 3))
    (kt : x < 0 → JG own cc nL cy RM Ex F tgt lv rest w cells slots)
    (kf : ¬ x < 0 → JG own cc nL cy RM Ex F (pc + 3) lv rest w cells slots)
    : JG own cc nL cy RM Ex F pc lv (.int x :: rest) w cells slots := by
  intro p l e s m args below meth c D A C0 E0 H locs ls hP hD hS hll
  exact lv_if_lt C0.1 C0.2.1 hd ht (fun h9 => kt h9 p l e s m args below meth c D A C0 E0 H locs ls hP hD hS hll) (fun h9 => kf h9 p l e s m args below meth c D A C0 E0 H locs ls hP hD hS hll)

theorem JG_if_ge {x : Int32} {off : Int} (tgt : Nat) (ht : (pc : Int) + off = (tgt : Int)) (hd : decode cc pc = .ok (.ifCond .ge off, 3))
    (kt : 0 ≤ x → JG own cc nL cy RM Ex F tgt lv rest w cells slots)
    (kf : ¬ 0 ≤ x → JG own cc nL cy RM Ex F (pc + 3) lv rest w cells slots)
    : JG own cc nL cy RM Ex F pc lv (.int x :: rest) w cells slots := by
  intro p l e s m args below meth c D A C0 E0 H locs ls hP hD hS hll
  exact lv_if_ge C0.1 C0.2.1 hd ht (fun h9 => kt h9 p l e s m args below meth c D A C0 E0 H locs ls hP hD hS hll) (fun h9 => kf h9 p l e s m args below meth c D A C0 E0 H locs ls hP hD hS hll)

theorem JG_if_gt {x : Int32} {off : Int} (tgt : Nat) (ht : (pc : Int) + off = (tgt : Int)) (hd : decode cc pc = .ok (.ifCond .gt off, 3))
    (kt : 0 < x → JG own cc nL cy RM Ex F tgt lv rest w cells slots)
    (kf : ¬ 0 < x → JG own cc nL cy RM Ex F (pc + 3) lv rest w cells slots)
    : JG own cc nL cy RM Ex F pc lv (.int x :: rest) w cells slots := by
  intro p l e s m args below meth c D A C0 E0 H locs ls hP hD hS hll
  exact lv_if_gt C0.1 C0.2.1 hd ht (fun h9 => kt h9 p l e s m args below meth c D A C0 E0 H locs ls hP hD hS hll) (fun h9 => kf h9 p l e s m args below meth c D A C0 E0 H locs ls hP hD hS hll)

theorem JG_if_le {x : Int32} {off : Int} (tgt : Nat) (ht : (pc : Int) + off = (tgt : Int)) (hd : decode cc pc = .ok (.ifCond .le off, 3))
    (kt : x ≤ 0 → JG own cc nL cy RM Ex F tgt lv rest w cells slots)
    (kf : ¬ x ≤ 0 → JG own cc nL cy RM Ex F (pc + 3) lv rest w cells slots)
    : JG own cc nL cy RM Ex F pc lv (.int x :: rest) w cells slots := by
  intro p l e s m args below meth c D A C0 E0 H locs ls hP hD hS hll
  exact lv_if_le C0.1 C0.2.1 hd ht (fun h9 => kt h9 p l e s m args below meth c D A C0 E0 H locs ls hP hD hS hll) (fun h9 => kf h9 p l e s m args below meth c D A C0 E0 H locs ls hP hD hS hll)

theorem JG_icmp_eq {x y : Int32} {off : Int} (tgt : Nat) (ht : (pc : Int) + off = (tgt : Int)) (hd : decode cc pc = .ok (.if_icmp .eq off, 3))
    (kt : x = y → JG own cc nL cy RM Ex F tgt lv rest w cells slots)
    (kf : ¬ x = y → JG own cc nL cy RM Ex F (pc + 3) lv rest w cells slots)
    : JG own cc nL cy RM Ex F pc lv (.int y :: .int x :: rest) w cells slots := by
  intro p l e s m args below meth c D A C0 E0 H locs ls hP hD hS hll
  exact lv_icmp_eq C0.1 C0.2.1 hd ht (fun h9 => kt h9 p l e s m args below meth c D A C0 E0 H locs ls hP hD hS hll) (fun h9 => kf h9 p l e s m args below meth c D A C0 E0 H locs ls hP hD hS hll)

theorem JG_icmp_ne {x y : Int32} {off : Int} (tgt : Nat) (ht : (pc : Int) + off = (tgt : Int)) (hd : decode cc pc = .ok (.if_icmp .ne off, 3))
    (kt : ¬ x = y → JG own cc nL cy RM Ex F tgt lv rest w cells slots)
    (kf : x = y → JG own cc nL cy RM Ex F (pc + 3) lv rest w cells slots)
    : JG own cc nL cy RM Ex F pc lv (.int y :: .int x :: rest) w cells slots := by
  intro p l e s m args below meth c D A C0 E0 H locs ls hP hD hS hll
  exact lv_icmp_ne C0.1 C0.2.1 hd ht (fun h9 => kt h9 p l e s m args below meth c D A C0 E0 H locs ls hP hD hS hll) (fun h9 => kf h9 p l e s m args below meth c D A C0 E0 H locs ls hP hD hS hll)

theorem JG_icmp_lt {x y : Int32} {off : Int} (tgt : Nat) (ht : (pc : Int) + off = (tgt : Int)) (hd : decode cc pc = .ok (.if_icmp .lt off, 3))
    (kt : x < y → JG own cc nL cy RM Ex F tgt lv rest w cells slots)
    (kf : ¬ x < y → JG own cc nL cy RM Ex F (pc + 3) lv rest w cells slots)
    : JG own cc nL cy RM Ex F pc lv (.int y :: .int x :: rest) w cells slots := by
  intro p l e s m args below meth c D A C0 E0 H locs ls hP hD hS hll
  exact lv_icmp_lt C0.1 C0.2.1 hd ht (fun h9 => kt h9 p l e s m args below meth c D A C0 E0 H locs ls hP hD hS hll) (fun h9 => kf h9 p l e s m args below meth c D A C0 E0 H locs ls hP hD hS hll)

theorem JG_icmp_ge {x y : Int32} {off : Int} (tgt : Nat) (ht : (pc : Int) + off = (tgt : Int)) (hd : decode cc pc = .ok (.if_icmp .ge off, 3))
    (kt : y ≤ x → JG own cc nL cy RM Ex F tgt lv rest w cells slots)
    (kf : ¬ y ≤ x → JG own cc nL cy RM Ex F (pc + 3) lv rest w cells slots)
    : JG own cc nL cy RM Ex F pc lv (.int y :: .int x :: rest) w cells slots := by
  intro p l e s m args below meth c D A C0 E0 H locs ls hP hD hS hll
  exact lv_icmp_ge C0.1 C0.2.1 hd ht (fun h9 => kt h9 p l e s m args below meth c D A C0 E0 H locs ls hP hD hS hll) (fun h9 => kf h9 p l e s m args below meth c D A C0 E0 H locs ls hP hD hS hll)

theorem JG_icmp_gt {x y : Int32} {off : Int} (tgt : Nat) (ht : (pc : Int) + off = (tgt : Int)) (hd : decode cc pc = .ok (.if_icmp .gt off, 3))
    (kt : y < x → JG own cc nL cy RM Ex F tgt lv rest w cells slots)
    (kf : ¬ y < x → JG own cc nL cy RM Ex F (pc + 3) lv rest w cells slots)
    : JG own cc nL cy RM Ex F pc lv (.int y :: .int x :: rest) w cells slots := by
  intro p l e s m args below meth c D A C0 E0 H locs ls hP hD hS hll
  exact lv_icmp_gt C0.1 C0.2.1 hd ht (fun h9 => kt h9 p l e s m args below meth c D A C0 E0 H locs ls hP hD hS hll) (fun h9 => kf h9 p l e s m args below meth c D A C0 E0 H locs ls hP hD hS hll)

theorem JG_icmp_le {x y : Int32} {off : Int} (tgt : Nat) (ht : (pc : Int) + off = (tgt : Int)) (hd : decode cc pc = .ok (.if_icmp .le off, 3))
    (kt : x ≤ y → JG own cc nL cy RM Ex F tgt lv rest w cells slots)
    (kf : ¬ x ≤ y → JG own cc nL cy RM Ex F (pc + 3) lv rest w cells slots)
    : JG own cc nL cy RM Ex F pc lv (.int y :: .int x :: rest) w cells slots := by
  intro p l e s m args below meth c D A C0 E0 H locs ls hP hD hS hll
  exact lv_icmp_le C0.1 C0.2.1 hd ht (fun h9 => kt h9 p l e s m args below meth c D A C0 E0 H locs ls hP hD hS hll) (fun h9 => kf h9 p l e s m args below meth c D A C0 E0 H locs ls hP hD hS hll)

theorem JG_sub (ks : List Nat) (hl : lv_pick lv ks = lv') (kk : JG own cc nL cy RM Ex F pc lv' st w cells slots) : JG own cc nL cy RM Ex F pc lv st w cells slots := by
  intro p l e s m args below meth c D A C0 E0 H locs ls hP hD hS hll
  exact kk p l e s m args below meth c D A C0 E0 H locs ls hP hD hS (lv_sub hll ks hl)

theorem JG_eq {w' : va_W} {lv' : List (Nat × Value)} {st' : List Value} (hw : w = w') (hl : lv = lv') (hs : st = st') (kk : JG own cc nL cy RM Ex F pc lv' st' w' cells slots) : JG own cc nL cy RM Ex F pc lv st w cells slots := by
  subst hw; subst hl; subst hs; exact kk

theorem JG_topeq {x : Int32} (y : Int32) (h : x = y) (kk : JG own cc nL cy RM Ex F pc lv (.int y :: rest) w cells slots) : JG own cc nL cy RM Ex F pc lv (.int x :: rest) w cells slots := by rw [h]; exact kk

theorem JG_topv {v v' : Value} (h : v = v') (kk : JG own cc nL cy RM Ex F pc lv (v' :: rest) w cells slots) : JG own cc nL cy RM Ex F pc lv (v :: rest) w cells slots := by rw [h]; exact kk

theorem JG_lconst {n : Fin 2} {v : Int64} (hv : Int64.ofNat (n : Nat) = v) (hd : decode cc pc = .ok (.lconst n, 1))
    (kk : JG own cc nL cy RM Ex F (pc + 1) lv (.long v :: rest) w cells slots) : JG own cc nL cy RM Ex F pc lv rest w cells slots := by
  intro p l e s m args below meth c D A C0 E0 H locs ls hP hD hS hll
  exact lv_lconst C0.1 C0.2.1 hd hv (kk p l e s m args below meth c D A C0 E0 H locs ls hP hD hS hll)

theorem lg_same (x : Int64) : lg_cmp x x = 0 := by unfold lg_cmp; simp

theorem JG_lcmp {x y : Int64} (hxy : x = y) (hd : decode cc pc = .ok (.lcmp, 1))
    (kk : JG own cc nL cy RM Ex F (pc + 1) lv (.int 0 :: rest) w cells slots) : JG own cc nL cy RM Ex F pc lv (.long y :: .long x :: rest) w cells slots := by
  intro p l e s m args below meth c D A C0 E0 H locs ls hP hD hS hll
  exact W.lcmp C0.1 C0.2.1 hd (by rw [hxy, lg_same]; exact (kk p l e s m args below meth c D A C0 E0 H locs ls hP hD hS hll))

theorem JG_i2c {x : Int32}  (hd : decode cc pc = .ok (.i2c, 1))
    (kk : JG own cc nL cy RM Ex F (pc + 1) lv (.int (x.toUInt32 % 65536).toInt32 :: rest) w cells slots) : JG own cc nL cy RM Ex F pc lv (.int x :: rest) w cells slots := by
  intro p l e s m args below meth c D A C0 E0 H locs ls hP hD hS hll
  exact lv_i2c C0.1 C0.2.1 hd rfl (kk p l e s m args below meth c D A C0 E0 H locs ls hP hD hS hll)

theorem JG_f2d {x : UInt32} (hne : vf_n64 (FP.f2d x)) (hd : decode cc pc = .ok (.f2d, 1))
    (kk : JG own cc nL cy RM Ex F (pc + 1) lv (.double (FP.f2d x) :: rest) w cells slots) : JG own cc nL cy RM Ex F pc lv (.float x :: rest) w cells slots := by
  intro p l e s m args below meth c D A C0 E0 H locs ls hP hD hS hll
  exact lv_f2d C0.1 C0.2.1 hd hne (kk p l e s m args below meth c D A C0 E0 H locs ls hP hD hS hll)

theorem JG_dcmp {x y : UInt64} {op : CmpOp} {v : Int32} (hv : Op.cmpValue (FP.dcmp x y) op = v) (hd : decode cc pc = .ok (.dcmp op, 1))
    (kk : JG own cc nL cy RM Ex F (pc + 1) lv (.int v :: rest) w cells slots) : JG own cc nL cy RM Ex F pc lv (.double y :: .double x :: rest) w cells slots := by
  intro p l e s m args below meth c D A C0 E0 H locs ls hP hD hS hll
  exact lv_dcmp C0.1 C0.2.1 hd (by rw [hv]; exact (kk p l e s m args below meth c D A C0 E0 H locs ls hP hD hS hll))

theorem JG_dload {i : Nat} {x : UInt64} (k : Nat) (hk : lv[k]? = some (i, .double x)) (hd : decode cc pc = .ok (.dload i, 2))
    (kk : JG own cc nL cy RM Ex F (pc + 2) lv (.double x :: rest) w cells slots) : JG own cc nL cy RM Ex F pc lv rest w cells slots := by
  intro p l e s m args below meth c D A C0 E0 H locs ls hP hD hS hll
  exact lv_dload C0.1 C0.2.1 hd (lv_at hll k hk) (kk p l e s m args below meth c D A C0 E0 H locs ls hP hD hS hll)

theorem JG_fload {i : Nat} {x : UInt32} (k : Nat) (hk : lv[k]? = some (i, .float x)) (hd : decode cc pc = .ok (.fload i, 2))
    (kk : JG own cc nL cy RM Ex F (pc + 2) lv (.float x :: rest) w cells slots) : JG own cc nL cy RM Ex F pc lv rest w cells slots := by
  intro p l e s m args below meth c D A C0 E0 H locs ls hP hD hS hll
  exact lv_fload C0.1 C0.2.1 hd (lv_at hll k hk) (kk p l e s m args below meth c D A C0 E0 H locs ls hP hD hS hll)

theorem ksi_has {ls : Array Slot} {i : Nat} {v : Value} {l : List (Nat × Value)} (h : lv_has ls nL ((i, v) :: l)) : lv_has ls nL (ksi i v l) := ⟨h.1, h.2.1, fun q hq => h.2.2 q (ksi_mem hq)⟩
theorem JG_dstore {x : UInt64} {i : Nat} (hn : i + 1 < nL) (hl : ksi i (.double x) (lv.filter (fun q => !(q.1 == i) && (!(q.1 == i + 1) && !(q.1 + 1 == i && q.2.category == 2)))) = lv') (hd : decode cc pc = .ok (.dstore i, 2))
    (kk : JG own cc nL cy RM Ex F (pc + 2) lv' rest w cells slots) : JG own cc nL cy RM Ex F pc lv (.double x :: rest) w cells slots := by
  intro p l e s m args below meth c D A C0 E0 H locs ls hP hD hS hll
  exact lv_dstore C0.1 C0.2.1 hd hll hn rfl (fun ls' hll' => kk p l e s m args below meth c D A C0 E0 H locs ls' hP hD hS (by rw [← hl]; exact ksi_has hll'))
theorem JG_fstore {x : UInt32} {i : Nat} (hn : i < nL) (hl : kst i (.float x) lv = lv') (hd : decode cc pc = .ok (.fstore i, 2))
    (kk : JG own cc nL cy RM Ex F (pc + 2) lv' rest w cells slots) : JG own cc nL cy RM Ex F pc lv (.float x :: rest) w cells slots := by
  intro p l e s m args below meth c D A C0 E0 H locs ls hP hD hS hll
  exact lv_fstore C0.1 C0.2.1 hd hll hn rfl (fun ls' hll' => kk p l e s m args below meth c D A C0 E0 H locs ls' hP hD hS (by rw [← hl]; exact kst_has hll'))
theorem JG_tableIn {dflt lo hi off : Int} {offs : Array Int} {len : Nat} {x : Int32} (tgt : Nat) (hd : decode cc pc = .ok (.tableswitch dflt lo hi offs, len)) (h1 : ¬ x.toInt < lo) (h2 : ¬ hi < x.toInt) (ho : offs[(x.toInt - lo).toNat]? = some off) (ht : (pc : Int) + off = (tgt : Int))
    (kk : JG own cc nL cy RM Ex F tgt lv rest w cells slots) : JG own cc nL cy RM Ex F pc lv (.int x :: rest) w cells slots := by
  intro p l e s m args below meth c D A C0 E0 H locs ls hP hD hS hll
  exact lv_tableIn C0.1 C0.2.1 hd h1 h2 ho ht (kk p l e s m args below meth c D A C0 E0 H locs ls hP hD hS hll)
theorem JG_tableOut {dflt lo hi : Int} {offs : Array Int} {len : Nat} {x : Int32} (tgt : Nat) (hd : decode cc pc = .ok (.tableswitch dflt lo hi offs, len)) (h : x.toInt < lo ∨ hi < x.toInt) (ht : (pc : Int) + dflt = (tgt : Int))
    (kk : JG own cc nL cy RM Ex F tgt lv rest w cells slots) : JG own cc nL cy RM Ex F pc lv (.int x :: rest) w cells slots := by
  intro p l e s m args below meth c D A C0 E0 H locs ls hP hD hS hll
  exact lv_tableOut C0.1 C0.2.1 hd h ht (kk p l e s m args below meth c D A C0 E0 H locs ls hP hD hS hll)
/-- the two arrays of the law -/
def wlo (cy : Nat → ClassId) (S : Nat → Nat → Nat) (G : kL) : va_W := kw S (shA cy S) (fun _ _ _ => 0) G (fun _ _ _ => none) NLl
theorem wlo_0 {S : Nat → Nat → Nat} {G : kL} : (wlo cy S G)[0]? = some (ka S 80 0, .inl (cy 3, 1, .inr (.inl (G 80 0)))) := rfl
theorem wlo_1 {S : Nat → Nat → Nat} {G : kL} : (wlo cy S G)[1]? = some (ka S 81 0, .inl (cy 4, 1, .inr (.inr (.inr (.inl (fun j => (G 81 0 j).toUInt64)))))) := rfl
theorem app_at {X Y : va_W} {k : Nat} {q : Nat × va_E} (h : Y[k]? = some q) : (X ++ Y)[X.length + k]? = some q := by
  rw [List.getElem?_append_right (by omega), Nat.add_sub_cancel_left]; exact h
theorem app_set {X Y : va_W} {k : Nat} {q : Nat × va_E} : (X ++ Y).set (X.length + k) q = X ++ Y.set k q := by
  rw [List.set_append_right _ _ (by omega), Nat.add_sub_cancel_left]
theorem wlo_s0 {S : Nat → Nat → Nat} {G : kL} {v : Int64} : (wlo cy S G).set 0 (ka S 80 0, .inl (cy 3, 1, .inr (.inl (vp_updL (G 80 0) 0 v)))) = wlo cy S (ku G 80 0 0 v) := by
  show [(ka S 80 0, (Sum.inl (cy 3, 1, Sum.inr (Sum.inl (vp_updL (G 80 0) 0 v))) : va_E)), (ka S 81 0, Sum.inl (cy 4, 1, Sum.inr (Sum.inr (Sum.inr (Sum.inl (fun j => (G 81 0 j).toUInt64))))))] = [(ka S 80 0, (Sum.inl (cy 3, 1, Sum.inr (Sum.inl (ku G 80 0 0 v 80 0))) : va_E)), (ka S 81 0, Sum.inl (cy 4, 1, Sum.inr (Sum.inr (Sum.inr (Sum.inl (fun j => (ku G 80 0 0 v 81 0 j).toUInt64))))))]
  rw [ku_own]; rfl
theorem u64_i64 (v : UInt64) : v.toInt64.toUInt64 = v := by rfl
theorem wlo_s1 {S : Nat → Nat → Nat} {G : kL} {v : UInt64} : (wlo cy S G).set 1 (ka S 81 0, .inl (cy 4, 1, .inr (.inr (.inr (.inl (vf_upd (fun j => (G 81 0 j).toUInt64) 0 v)))))) = wlo cy S (ku G 81 0 0 v.toInt64) := by
  show [(ka S 80 0, (Sum.inl (cy 3, 1, Sum.inr (Sum.inl (G 80 0))) : va_E)), (ka S 81 0, Sum.inl (cy 4, 1, Sum.inr (Sum.inr (Sum.inr (Sum.inl (vf_upd (fun j => (G 81 0 j).toUInt64) 0 v))))))] = [(ka S 80 0, (Sum.inl (cy 3, 1, Sum.inr (Sum.inl (ku G 81 0 0 v.toInt64 80 0))) : va_E)), (ka S 81 0, Sum.inl (cy 4, 1, Sum.inr (Sum.inr (Sum.inr (Sum.inl (fun j => (ku G 81 0 0 v.toInt64 81 0 j).toUInt64))))))]
  have e : vf_upd (fun j => (G 81 0 j).toUInt64) 0 v = fun j => (ku G 81 0 0 v.toInt64 81 0 j).toUInt64 := by
    funext j
    rw [ku_own]
    by_cases h : j = 0
    · subst h; simp [vf_upd]
    · simp [vf_upd, h]
  rw [e]; rfl
variable {S : Nat → Nat → Nat} {G : kL} {X : va_W}
theorem JG_lastO {v : Int64} (hd : decode cc pc = .ok (.lastore, 1)) (kk : JG own cc nL cy RM Ex F (pc + 1) lv rest (X ++ wlo cy S (ku G 80 0 0 v)) cells slots) : JG own cc nL cy RM Ex F pc lv (.long v :: .int 0 :: .ref (ka S 80 0) :: rest) (X ++ wlo cy S G) cells slots := by
  intro p l e s m args below meth c D A C0 E0 H locs ls hP hD hS hll
  refine va_last C0.1 C0.2.1 C0.2.2.2.2.2.1.1 hP hD hS (X.length + 0) 3 (app_at wlo_0) rfl (vp_in_iff.mpr (by decide)) hd (fun H1 locs1 hP1 hD1 hS1 => ?_)
  rw [app_set, show ((0 : Int32).toNatClampNeg) = 0 from rfl, wlo_s0] at hP1 hD1
  exact kk p l e s m args below meth c D A C0 E0 H1 locs1 ls hP1 hD1 hS1 hll
theorem JG_dastO {v : UInt64} (hd : decode cc pc = .ok (.dastore, 1)) (kk : JG own cc nL cy RM Ex F (pc + 1) lv rest (X ++ wlo cy S (ku G 81 0 0 v.toInt64)) cells slots) : JG own cc nL cy RM Ex F pc lv (.double v :: .int 0 :: .ref (ka S 81 0) :: rest) (X ++ wlo cy S G) cells slots := by
  intro p l e s m args below meth c D A C0 E0 H locs ls hP hD hS hll
  refine va_dast C0.1 C0.2.1 C0.2.2.2.2.2.1.1 hP hD hS (X.length + 1) 4 (app_at wlo_1) rfl (vp_in_iff.mpr (by decide)) hd (fun H1 locs1 hP1 hD1 hS1 => ?_)
  rw [app_set, show ((0 : Int32).toNatClampNeg) = 0 from rfl, wlo_s1] at hP1 hD1
  exact kk p l e s m args below meth c D A C0 E0 H1 locs1 ls hP1 hD1 hS1 hll
theorem JG_laldO (hd : decode cc pc = .ok (.laload, 1)) (kk : JG own cc nL cy RM Ex F (pc + 1) lv (.long (G 80 0 0) :: rest) (X ++ wlo cy S G) cells slots) : JG own cc nL cy RM Ex F pc lv (.int 0 :: .ref (ka S 80 0) :: rest) (X ++ wlo cy S G) cells slots := by
  intro p l e s m args below meth c D A C0 E0 H locs ls hP hD hS hll
  exact va_lald C0.1 C0.2.1 C0.2.2.2.2.2.1.1 hP (X.length + 0) 3 (app_at wlo_0) rfl (vp_in_iff.mpr (by decide)) hd (kk p l e s m args below meth c D A C0 E0 H locs ls hP hD hS hll)
theorem JG_daldO (hd : decode cc pc = .ok (.daload, 1)) (kk : JG own cc nL cy RM Ex F (pc + 1) lv (.double (G 81 0 0).toUInt64 :: rest) (X ++ wlo cy S G) cells slots) : JG own cc nL cy RM Ex F pc lv (.int 0 :: .ref (ka S 81 0) :: rest) (X ++ wlo cy S G) cells slots := by
  intro p l e s m args below meth c D A C0 E0 H locs ls hP hD hS hll
  exact va_dald C0.1 C0.2.1 C0.2.2.2.2.2.1.1 hP (X.length + 1) 4 (app_at wlo_1) rfl (vp_in_iff.mpr (by decide)) hd (kk p l e s m args below meth c D A C0 E0 H locs ls hP hD hS hll)
end LG

section LC
variable {own : String} {cc : ByteArray} {nL : Nat} {cy : Nat → ClassId} {RM : Room} {Ex : kEx} {F : kFin} {pc : Nat} {lv lv' : List (Nat × Value)} {st rest : List Value} {w : va_W} {cells slots : Nat}
variable {y2 : MethodName} {cc2 : ByteArray} {nL2 : Nat} {ret2 : Option FieldType} {d2 mc2 ms2 : Nat} {Q2 : kQT} {QX2 : kXT} {As : List Value} {w2 : va_W} {index : Nat} {b : Nat}
theorem kg_callB {s : State} {args : Array Value} {n : Nat} (hts : ∀ w ∈ kT, w.before args s = true) (hlink : Cond.methodLink own index y2 ∈ kT) (hcode : Cond.code y2 cc2 nL2 ret2 ∈ kT) (hini : Cond.initialized y2.cls ∈ kT)
    (hy : y2.cls ≠ "java/lang/invoke/MethodHandle" ∧ y2.cls ≠ "java/lang/invoke/VarHandle" ∧ (parseMethodDescriptor y2.desc).map (fun d => d.parameters.length) = some n) (hroom : d2 + 1 ≤ RM.frames ∧ 8 + (nL2 + 11) + (40 * d2 + 100) ≤ RM.locals) :
    CallB RM s args own index y2 cc2 nL2 ret2 (Cond.code y2 cc2 nL2 ret2 :: kT) (kR d2 mc2 ms2) mc2 ms2 n := by
  have hG : GoodIn kT (Cond.code y2 cc2 nL2 ret2 :: kT) := by
    intro w hw
    have h1 : w ∈ kT := by
      rcases List.mem_cons.mp hw with rfl | h2
      · exact hcode
      · exact h2
    exact ⟨h1, good_of_word (List.mem_filter.mp h1).2⟩
  exact callB_of n hts hG rfl rfl rfl (hts _ hini) (hts _ hlink) hy hroom

theorem JG_callV (X Y : va_W) (hd : decode cc pc = .ok (.invokevirtual index, 3)) (hcon : Con y2 cc2 nL2 ret2 d2 mc2 ms2 cy (.ref b :: As) w2 Q2 QX2) (hw : w = X ++ (w2 ++ Y)) (hrecv : ∃ (q0 ci : Nat) (r : vw_C) (fs : List Value), w2[q0]? = some (b, .inr (ci, fs)) ∧ kCl[ci]? = some r ∧ r.1 = y2.cls) (hlink : Cond.methodLink own index y2 ∈ kT) (hcode : Cond.code y2 cc2 nL2 ret2 ∈ kT) (hini : Cond.initialized y2.cls ∈ kT) (hinst : Cond.instanceMethod y2 ∈ kT) (hsel : Cond.selects y2.cls y2 y2 ∈ kT)
    (hy : y2.cls ≠ "java/lang/invoke/MethodHandle" ∧ y2.cls ≠ "java/lang/invoke/VarHandle" ∧ (parseMethodDescriptor y2.desc).map (fun d => d.parameters.length) = some As.length) (hroom : d2 + 1 ≤ RM.frames ∧ 8 + (nL2 + 11) + (40 * d2 + 100) ≤ RM.locals) (hc : cells + mc2 ≤ RM.cells) (hs : slots + ms2 ≤ RM.slots) (hst : (rest.map fun v => v.category).sum ≤ 8)
    (kk : ∀ (r : Option Value) (w2' : va_W), Q2 r w2' → JG own cc nL cy RM Ex F (pc + 3) lv (r.toList ++ rest) (X ++ (w2' ++ Y)) (cells + mc2) (slots + ms2))
    (kx : ∀ (E : String) (w2' : va_W), QX2 E w2' → ∀ q : Nat, JX own cc nL cy RM Ex F pc lv q E (X ++ (w2' ++ Y)) (cells + mc2) (slots + ms2)) : JG own cc nL cy RM Ex F pc lv (As.reverse ++ .ref b :: rest) w cells slots := by
  subst hw
  intro p l e s m args below meth c D A C0 E0 H locs ls hP hD hS hll
  have hx := C0.1
  have hb := C0.2.1
  have hml := C0.2.2.1
  have hts := C0.2.2.2.2.1
  have hown := C0.2.2.2.1
  have hK := C0.2.2.2.2.2.1
  have hA := C0.2.2.2.2.2.2.1
  have hM := hcon l C0.2.2.2.2.2.2.2.1 D H.size
  have hcb := kg_callB (s := s) (args := args) (n := As.length) (RM := RM) (d2 := d2) (mc2 := mc2) (ms2 := ms2) hts hlink hcode hini hy hroom
  have hpre := k_pre (av := (.ref b :: As)) hP hD hS hA hK
  intro T hT X9
  rcases vx_runV (b := b) (As := As) (C := y2.cls) (g := F0 m pc ls (As.reverse ++ .ref b :: rest)) (rest := rest) ⟨hx, hb, hml, hown, hts⟩ hM ⟨hcb, hts _ hinst, hts _ hsel⟩ ⟨hpre.1, (by obtain ⟨q0, ci, r, fs, r1, r2, r3⟩ := hrecv; rw [← r3]; exact va_recv hK.1 (kP_mid hP).2.1 (ci := ci) (q0 := q0) r2 r1), hpre.2⟩ rfl rfl (hll.1.trans rfl) rfl (by show 2 * 0 + _ ≤ 8; omega) hd ⟨hc, hs⟩ T hT X9 with
    ⟨v, st₀, t, T', L, h0, X', hL, e1, e2, ⟨⟨r, w2', hr, hq, hP2, hD2⟩, hF⟩, stp⟩ | ⟨q, st₀, t, T', L, E, ce, h0, X', hL, e1, e2, ⟨w2', hq, hP2, hD2, hF⟩, hce, hcv, hcl, stp⟩
  · cases hr
    obtain ⟨k1, k2, k3⟩ := vx_keep h0 e1 hS (fun q _ h => k_free hD hS hA q h) (k_free hD hS hA) hL hF
    obtain ⟨hP3, hD3⟩ := k_back hP hD hS hA k2 (by rw [e1]; exact hP2) hD2
    obtain ⟨t2, a1, b1⟩ := kk v w2' hq p l e s m args below meth c D A C0 E0 T'.heap (locs ++ L) ls hP3 hD3 k3 hll T' rfl X'
    exact ⟨t2, stp t2 a1, b1⟩
  · obtain ⟨k1, k2, k3⟩ := vx_keep h0 e1 hS (fun q _ h => k_free hD hS hA q h) (k_free hD hS hA) hL hF
    obtain ⟨hP3, hD3⟩ := k_back hP hD hS hA k2 (by rw [e1]; exact hP2) hD2
    have hcl2 := hcl
    obtain ⟨t2, a1, b1⟩ := kx E w2' hq q p l e s m args below meth c D A C0 E0 T'.heap (locs ++ L) ls rest ce hP3 hD3 k3 hll (by rw [e1]; exact hce) hcv hcl T' rfl X'
    exact ⟨t2, stp.trans a1, b1⟩

/-- caught here, by the row i of the table -/
theorem JX_catch {hh : List (Nat × Nat × Nat × Nat)} {E : String} {q : Nat} (ns : List String) (i : Nat) {r : Nat × Nat × Nat × Nat} (hE : ∀ p l e s m args below meth c D A, Ex p l e s m args below meth c D A → c.exceptionTable.toList = tableOf hh)
    (hi : hh[i]? = some r) (hcov : covers ⟨r.1, r.2.1, r.2.2.1, r.2.2.2⟩ pc = true) (h0 : r.2.2.2 ≠ 0) (hlk : Cond.classLink own r.2.2.2 E ∈ kT) (hex : E ∈ kExc)
    (hpre : ∀ (j : Nat) (z : Nat × Nat × Nat × Nat), j < i → hh[j]? = some z → z.2.2.2 ≠ 0 ∧ ∃ nm : String, Cond.classLink own z.2.2.2 nm ∈ kT ∧ (E, nm) ∈ kNCs)
    (kk : JG own cc nL cy RM Ex F r.2.2.1 lv [.ref q] w cells slots) : JX own cc nL cy RM Ex F pc lv q E w cells slots := by
  intro p l e s m args below meth c D A C0 E0 H locs ls rest ce hP hD hS hll hce hcv hcl
  have hts := C0.2.2.2.2.1
  have hl := (List.getElem?_eq_some_iff.mp hi)
  obtain ⟨hl1, hl2⟩ := hl
  refine vx_catch (own := own) (name := E) C0.2.2.2.1 (tableOf (hh.take i)) ⟨r.1, r.2.1, r.2.2.1, r.2.2.2⟩ (tableOf (hh.drop (i + 1))) ?_ (fun z hz => ?_) hcov h0 (hts _ hlk) (va_Nw.use rfl (C0.2.2.2.2.2.1.2.1 E hex)) hce hcv hcl (kk p l e s m args below meth c D A C0 E0 H locs ls hP hD hS hll)
  · rw [hE p l e s m args below meth c D A E0]
    have : hh = hh.take i ++ r :: hh.drop (i + 1) := by rw [← hl2, ← List.drop_eq_getElem_cons hl1, List.take_append_drop]
    conv => lhs; rw [this]
    unfold tableOf
    rw [List.map_append, List.map_cons]
  · unfold tableOf at hz
    obtain ⟨y, hy, rfl⟩ := List.mem_map.mp hz
    obtain ⟨j, hj⟩ := List.mem_iff_getElem?.mp hy
    have hjl := (List.getElem?_eq_some_iff.mp hj).1
    rw [List.length_take] at hjl
    rw [List.getElem?_take] at hj
    rw [if_pos (by omega)] at hj
    obtain ⟨z0, nm, z1, z2⟩ := hpre j y (by omega) hj
    exact Or.inr ⟨z0, nm, hts _ z1, C0.2.2.2.2.2.2.2.2 _ z2⟩
/-- a wrapper's contract: it has a table, and never throws -/
def ConH (hh : List (Nat × Nat × Nat × Nat)) (y : MethodName) (cc : ByteArray) (nL : Nat) (ret : Option FieldType) (d mc ms : Nat) (cy : Nat → ClassId) (av : List Value) (w : va_W) (Q : kQT) : Prop :=
  ∀ (l : Launch), l.stackTraces = false → ∀ (D : va_G) (sz : Nat), vx_Met l y (Cond.codeWith y cc nL ret hh :: kT) (kR d mc ms)
    (va_Pc av (fun U => U.heap.size = sz ∧ va_P D kCl w U.heap ∧ va_D (fun _ => True) w ∧ KX cy D (va_A w sz) U U.heap ∧ NC U)) (kQ D (va_A w sz) Q) (kXQ D (va_A w sz) kF) mc ms (va_A w sz)
def ExH (hh : List (Nat × Nat × Nat × Nat)) (ret : Option FieldType) : kEx := fun _ _ _ _ _ _ _ meth c _ _ => c.exceptionTable.toList = tableOf hh ∧ meth.sig.returnType = ret ∧ meth.locks = false
def FinH (Q : kQT) (mc ms : Nat) : kFin := fun below args s D A => vx_MQ below (kQ D A Q) (kXQ D A kF) args s mc ms A
set_option maxHeartbeats 4000000 in
theorem ConH_of {hh : List (Nat × Nat × Nat × Nat)} {y : MethodName} {cc : ByteArray} {nL : Nat} {ret : Option FieldType} {d mc ms : Nat} {cy : Nat → ClassId} {av : List Value} {w : va_W} {Q : kQT} (hy : plainName y.cls = true) (hlen : (lg_sl av).length ≤ nL)
    (h : JG y.cls cc nL cy (kR d mc ms) (ExH hh ret) (FinH Q mc ms) 0 (lv_args 0 av) [] w 0 0) : ConH hh y cc nL ret d mc ms cy av w Q := by
  intro l hl D sz
  refine vx_ofWH (cc := cc) (maxL := nL) (ret := ret) (hh := hh) (ws' := kT) hy rfl ?_
  intro p e s m args below meth c s₁ B hml hv
  obtain ⟨rfl, hsz, hP, hD0, hK, hN⟩ := hv
  subst hsz
  have hts := atoms_spec (ws := Cond.codeWith y cc nL ret hh :: kT) B.pre
  have hD := hD0.self (sz := s.heap.size)
  have hll := lv_entry av (n := nL) hlen
  rw [lg_entry_eq]
  exact h p l e s m av.toArray below meth c D (va_A w s.heap.size) ⟨B.exec, B.bytes, hml, findClass_of_methodNamed B.named, fun w hw => hts w (List.mem_cons_of_mem _ hw), hK, fun q hq => Or.inr hq, hl, hN⟩ ⟨vx_table (x := y) B (hts _ List.mem_cons_self), B.returns, B.notSynchronized⟩ s.heap [] _ hP hD va_S.rf hll
theorem JG_iretH {hh : List (Nat × Nat × Nat × Nat)} {Q : kQT} {mc ms d : Nat} {v : Int32} (hd : decode cc pc = .ok (.ireturn, 1)) (hq : Q (some (.int v)) w) (hc : cells ≤ mc) (hs : slots ≤ ms) : JG own cc nL cy (kR d mc ms) (ExH hh (some .int)) (FinH Q mc ms) pc lv [.int v] w cells slots := by
  intro p l e s m args below meth c D A C0 E0 H locs ls hP hD hS hll
  refine W.widen hc hs (vx_ret ?_)
  exact W.zret (v := v) C0.1 C0.2.1 E0.2.1 rfl (fun t ht hW => ⟨⟨_, w, rfl, hq, by rw [ht]; exact hP, hD⟩, hS.F ht⟩) hS.2.2 hd E0.2.2
theorem k_preH {D : va_G} {A : Nat → Prop} {X w2 Y : va_W} {H : Heap} {s : State} {locs : List Loc} {av : List Value} (hP : va_P D kCl (X ++ (w2 ++ Y)) H) (hD : va_D A (X ++ (w2 ++ Y))) (hS : va_S A s.heap H locs) (hA : ∀ q, s.heap.size ≤ q → A q) (hK : KX cy D A s s.heap) (hN : NC s) :
    FrameBlind (va_Pc av (fun U => U.heap.size = H.size ∧ va_P D kCl w2 U.heap ∧ va_D (fun _ => True) w2 ∧ KX cy D (va_A w2 H.size) U U.heap ∧ NC U)) ∧
    ∀ U : State, U.heap = H → s.WarmedH U.vm → va_Pc av (fun U => U.heap.size = H.size ∧ va_P D kCl w2 U.heap ∧ va_D (fun _ => True) w2 ∧ KX cy D (va_A w2 H.size) U U.heap ∧ NC U) av.toArray U := by
  refine ⟨fun a U g mk q => ?_, fun U hU hW => ⟨rfl, by rw [hU], by rw [hU]; exact (kP_mid hP).2.1, (kD_mid hD).2.1.weaken (fun _ _ _ _ => trivial), by rw [hU]; exact hK.warm hW (fun a h1 h2 => hS.2.1 a h1 h2) (k_free hD hS hA), hN.warm hW⟩⟩
  obtain ⟨q0, q1, q2, q3, q4, q5⟩ := q
  exact ⟨q0, q1, q2, q3, KX.same (s := U) (U := U.calling g mk a) rfl q4, NC.same (s := U) (U := U.calling g mk a) rfl q5⟩
theorem kg_callH {hh : List (Nat × Nat × Nat × Nat)} {s : State} {args : Array Value} {n : Nat} (hts : ∀ w ∈ kT, w.before args s = true) (hlink : Cond.methodLink own index y2 ∈ kT) (hcode : Cond.codeWith y2 cc2 nL2 ret2 hh ∈ kT) (hini : Cond.initialized y2.cls ∈ kT) (hstat : Cond.static y2 ∈ kT)
    (hy : y2.cls ≠ "java/lang/invoke/MethodHandle" ∧ y2.cls ≠ "java/lang/invoke/VarHandle" ∧ (parseMethodDescriptor y2.desc).map (fun d => d.parameters.length) = some n) (hroom : d2 + 1 ≤ RM.frames ∧ 8 + (nL2 + 11) + (40 * d2 + 100) ≤ RM.locals) :
    vx_CSW RM s args own index y2 cc2 nL2 ret2 hh (Cond.codeWith y2 cc2 nL2 ret2 hh :: kT) (kR d2 mc2 ms2) mc2 ms2 n := by
  have hG : GoodIn kT (Cond.codeWith y2 cc2 nL2 ret2 hh :: kT) := by
    intro w hw
    have h1 : w ∈ kT := by
      rcases List.mem_cons.mp hw with rfl | h2
      · exact hcode
      · exact h2
    exact ⟨h1, good_of_word (List.mem_filter.mp h1).2⟩
  refine ⟨⟨rfl, rfl, hroom.1, hroom.2, pay_in hts hG, List.mem_cons_self⟩, hts _ hcode, hts _ hini, ⟨hy.1, hy.2.1⟩, fun sig h => ?_, hts _ hlink, hts _ hstat⟩
  have h2 := hy.2.2
  rw [h] at h2
  exact (Option.some.inj h2).symm

theorem JG_callH {hh : List (Nat × Nat × Nat × Nat)} (X Y : va_W) (hd : decode cc pc = .ok (.invokestatic index, 3)) (hcon : ConH hh y2 cc2 nL2 ret2 d2 mc2 ms2 cy As w2 Q2) (hw : w = X ++ (w2 ++ Y))  (hlink : Cond.methodLink own index y2 ∈ kT) (hcode : Cond.codeWith y2 cc2 nL2 ret2 hh ∈ kT) (hini : Cond.initialized y2.cls ∈ kT) (hstat : Cond.static y2 ∈ kT)
    (hy : y2.cls ≠ "java/lang/invoke/MethodHandle" ∧ y2.cls ≠ "java/lang/invoke/VarHandle" ∧ (parseMethodDescriptor y2.desc).map (fun d => d.parameters.length) = some As.length) (hroom : d2 + 1 ≤ RM.frames ∧ 8 + (nL2 + 11) + (40 * d2 + 100) ≤ RM.locals) (hc : cells + mc2 ≤ RM.cells) (hs : slots + ms2 ≤ RM.slots) (hst : (rest.map fun v => v.category).sum ≤ 8)
    (kk : ∀ (r : Option Value) (w2' : va_W), Q2 r w2' → JG own cc nL cy RM Ex F (pc + 3) lv (r.toList ++ rest) (X ++ (w2' ++ Y)) (cells + mc2) (slots + ms2)) : JG own cc nL cy RM Ex F pc lv (As.reverse ++ rest) w cells slots := by
  subst hw
  intro p l e s m args below meth c D A C0 E0 H locs ls hP hD hS hll
  have hx := C0.1
  have hb := C0.2.1
  have hml := C0.2.2.1
  have hts := C0.2.2.2.2.1
  have hown := C0.2.2.2.1
  have hK := C0.2.2.2.2.2.1
  have hA := C0.2.2.2.2.2.2.1
  have hM := hcon l C0.2.2.2.2.2.2.2.1 D H.size
  have hcb := kg_callH (s := s) (args := args) (n := As.length) (RM := RM) (d2 := d2) (mc2 := mc2) (ms2 := ms2) hts hlink hcode hini hstat hy hroom
  have hpre := k_preH (av := As) hP hD hS hA hK C0.2.2.2.2.2.2.2.2
  intro T hT X9
  rcases vx_runSX (As := As) (g := F0 m pc ls (As.reverse ++ rest)) (rest := rest) ⟨hx, hb, hml, hown, hts⟩ hM hcb hpre rfl rfl (hll.1.trans rfl) rfl (by show 2 * 0 + _ ≤ 8; omega) hd ⟨hc, hs⟩ T hT X9 with
    ⟨v, st₀, t, T', L, h0, X', hL, e1, e2, ⟨⟨r, w2', hr, hq, hP2, hD2⟩, hF⟩, stp⟩ | ⟨q, st₀, t, T', L, E, ce, h0, X', hL, e1, e2, ⟨w2', hq, hP2, hD2, hF⟩, hce, hcv, hcl, stp⟩
  · cases hr
    obtain ⟨k1, k2, k3⟩ := vx_keep h0 e1 hS (fun q _ h => k_free hD hS hA q h) (k_free hD hS hA) hL hF
    obtain ⟨hP3, hD3⟩ := k_back hP hD hS hA k2 (by rw [e1]; exact hP2) hD2
    obtain ⟨t2, a1, b1⟩ := kk v w2' hq p l e s m args below meth c D A C0 E0 T'.heap (locs ++ L) ls hP3 hD3 k3 hll T' rfl X'
    exact ⟨t2, stp t2 a1, b1⟩
  · exact hq.elim

end LC

