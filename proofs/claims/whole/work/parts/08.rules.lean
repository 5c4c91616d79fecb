section KR
variable {own nm : String} {cc : ByteArray} {nL : Nat} {ret : Option FieldType} {d mc ms : Nat} {cy : Nat → ClassId} {Q : kQT} {QX : kXT} {pc : Nat} {lv lv' : List (Nat × Value)} {st rest : List Value} {w : va_W} {cells slots : Nat}

theorem J_iconst {n : Int} {v : Int32} (hv : Int32.ofInt n = v) (hd : decode cc pc = .ok (.iconst n, 1))
    (kk : J own nm cc nL ret d mc ms cy Q QX (pc + 1) lv (.int v :: st) w cells slots)
    : J own nm cc nL ret d mc ms cy Q QX pc lv st w cells slots := by
  intro p l e s m args below meth c D A C0 H locs ls hP hD hS hll
  exact lv_iconst C0.1 C0.2.1  hd hv (kk p l e s m args below meth c D A C0 H locs ls hP hD hS hll)
theorem J_bipush {n : Int} {v : Int32} (hv : (Int8.ofInt n).toInt32 = v) (hd : decode cc pc = .ok (.bipush n, 2))
    (kk : J own nm cc nL ret d mc ms cy Q QX (pc + 2) lv (.int v :: st) w cells slots)
    : J own nm cc nL ret d mc ms cy Q QX pc lv st w cells slots := by
  intro p l e s m args below meth c D A C0 H locs ls hP hD hS hll
  exact lv_bipush C0.1 C0.2.1  hd hv (kk p l e s m args below meth c D A C0 H locs ls hP hD hS hll)
theorem J_sipush {n : Int} {v : Int32} (hv : (Int16.ofInt n).toInt32 = v) (hd : decode cc pc = .ok (.sipush n, 3))
    (kk : J own nm cc nL ret d mc ms cy Q QX (pc + 3) lv (.int v :: st) w cells slots)
    : J own nm cc nL ret d mc ms cy Q QX pc lv st w cells slots := by
  intro p l e s m args below meth c D A C0 H locs ls hP hD hS hll
  exact lv_sipush C0.1 C0.2.1  hd hv (kk p l e s m args below meth c D A C0 H locs ls hP hD hS hll)
theorem J_null  (hd : decode cc pc = .ok (.aconst_null, 1))
    (kk : J own nm cc nL ret d mc ms cy Q QX (pc + 1) lv (.null :: st) w cells slots)
    : J own nm cc nL ret d mc ms cy Q QX pc lv st w cells slots := by
  intro p l e s m args below meth c D A C0 H locs ls hP hD hS hll
  exact lv_null C0.1 C0.2.1  hd  (kk p l e s m args below meth c D A C0 H locs ls hP hD hS hll)
theorem J_iload_n {x : Int32} (k : Nat) {f : Fin 4} (hk : lv[k]? = some ((f : Nat), .int x)) (hd : decode cc pc = .ok (.iload_n f, 1))
    (kk : J own nm cc nL ret d mc ms cy Q QX (pc + 1) lv (.int x :: st) w cells slots)
    : J own nm cc nL ret d mc ms cy Q QX pc lv st w cells slots := by
  intro p l e s m args below meth c D A C0 H locs ls hP hD hS hll
  exact lv_iload_n C0.1 C0.2.1  hd rfl (lv_at hll k hk) (kk p l e s m args below meth c D A C0 H locs ls hP hD hS hll)
theorem J_aload_n {x : Nat} (k : Nat) {f : Fin 4} (hk : lv[k]? = some ((f : Nat), .ref x)) (hd : decode cc pc = .ok (.aload_n f, 1))
    (kk : J own nm cc nL ret d mc ms cy Q QX (pc + 1) lv (.ref x :: st) w cells slots)
    : J own nm cc nL ret d mc ms cy Q QX pc lv st w cells slots := by
  intro p l e s m args below meth c D A C0 H locs ls hP hD hS hll
  exact lv_aload_n C0.1 C0.2.1  hd rfl (lv_at hll k hk) (kk p l e s m args below meth c D A C0 H locs ls hP hD hS hll)
theorem J_aload_nN (k : Nat) {f : Fin 4} (hk : lv[k]? = some ((f : Nat), .null)) (hd : decode cc pc = .ok (.aload_n f, 1))
    (kk : J own nm cc nL ret d mc ms cy Q QX (pc + 1) lv (.null :: st) w cells slots)
    : J own nm cc nL ret d mc ms cy Q QX pc lv st w cells slots := by
  intro p l e s m args below meth c D A C0 H locs ls hP hD hS hll
  exact lv_aload_nN C0.1 C0.2.1  hd rfl (lv_at hll k hk) (kk p l e s m args below meth c D A C0 H locs ls hP hD hS hll)
theorem J_iload {x : Int32} (k : Nat) {f : Nat} (hk : lv[k]? = some (f, .int x)) (hd : decode cc pc = .ok (.iload f, 2))
    (kk : J own nm cc nL ret d mc ms cy Q QX (pc + 2) lv (.int x :: st) w cells slots)
    : J own nm cc nL ret d mc ms cy Q QX pc lv st w cells slots := by
  intro p l e s m args below meth c D A C0 H locs ls hP hD hS hll
  exact lv_iload C0.1 C0.2.1  hd (lv_at hll k hk) (kk p l e s m args below meth c D A C0 H locs ls hP hD hS hll)
theorem J_aload {x : Nat} (k : Nat) {f : Nat} (hk : lv[k]? = some (f, .ref x)) (hd : decode cc pc = .ok (.aload f, 2))
    (kk : J own nm cc nL ret d mc ms cy Q QX (pc + 2) lv (.ref x :: st) w cells slots)
    : J own nm cc nL ret d mc ms cy Q QX pc lv st w cells slots := by
  intro p l e s m args below meth c D A C0 H locs ls hP hD hS hll
  exact lv_aload C0.1 C0.2.1  hd (lv_at hll k hk) (kk p l e s m args below meth c D A C0 H locs ls hP hD hS hll)
theorem J_aloadN (k : Nat) {f : Nat} (hk : lv[k]? = some (f, .null)) (hd : decode cc pc = .ok (.aload f, 2))
    (kk : J own nm cc nL ret d mc ms cy Q QX (pc + 2) lv (.null :: st) w cells slots)
    : J own nm cc nL ret d mc ms cy Q QX pc lv st w cells slots := by
  intro p l e s m args below meth c D A C0 H locs ls hP hD hS hll
  exact lv_aloadN C0.1 C0.2.1  hd (lv_at hll k hk) (kk p l e s m args below meth c D A C0 H locs ls hP hD hS hll)
/-- a store keeps the list in the order of the places -/
def ksi (i : Nat) (v : Value) : List (Nat × Value) → List (Nat × Value)
  | [] => [(i, v)]
  | (j, u) :: t => if i < j then (i, v) :: (j, u) :: t else (j, u) :: ksi i v t
def kst (i : Nat) (v : Value) (lv : List (Nat × Value)) : List (Nat × Value) := ksi i v (lv.filter (fun q => !(q.1 == i) && !(q.1 + 1 == i && q.2.category == 2)))
theorem ksi_mem {i : Nat} {v : Value} {q : Nat × Value} : ∀ {l : List (Nat × Value)}, q ∈ ksi i v l → q ∈ (i, v) :: l
  | [], h => h
  | (j, u) :: t, h => by
    unfold ksi at h
    by_cases hij : i < j
    · rw [if_pos hij] at h; exact h
    · rw [if_neg hij] at h
      rcases List.mem_cons.mp h with h | h
      · exact List.mem_cons_of_mem _ (List.mem_cons.mpr (Or.inl h))
      · rcases List.mem_cons.mp (ksi_mem h) with h | h
        · exact List.mem_cons.mpr (Or.inl h)
        · exact List.mem_cons_of_mem _ (List.mem_cons_of_mem _ h)
theorem kst_has {ls : Array Slot} {i : Nat} {v : Value} (h : lv_has ls nL ((i, v) :: lv.filter (fun q => !(q.1 == i) && !(q.1 + 1 == i && q.2.category == 2)))) : lv_has ls nL (kst i v lv) := ⟨h.1, h.2.1, fun q hq => h.2.2 q (ksi_mem hq)⟩

theorem J_istore_n {x : Int32} {f : Fin 4} (hn : (f : Nat) < nL) (hl : kst (f : Nat) (.int x) lv = lv') (hd : decode cc pc = .ok (.istore_n f, 1))
    (kk : J own nm cc nL ret d mc ms cy Q QX (pc + 1) lv' rest w cells slots)
    : J own nm cc nL ret d mc ms cy Q QX pc lv (.int x :: rest) w cells slots := by
  intro p l e s m args below meth c D A C0 H locs ls hP hD hS hll
  exact lv_istore_n C0.1 C0.2.1 hd rfl hll hn rfl (fun ls' hll' => kk p l e s m args below meth c D A C0 H locs ls' hP hD hS (by rw [← hl]; exact kst_has hll'))
theorem J_istore {x : Int32} {f : Nat} (hn : f < nL) (hl : kst f (.int x) lv = lv') (hd : decode cc pc = .ok (.istore f, 2))
    (kk : J own nm cc nL ret d mc ms cy Q QX (pc + 2) lv' rest w cells slots)
    : J own nm cc nL ret d mc ms cy Q QX pc lv (.int x :: rest) w cells slots := by
  intro p l e s m args below meth c D A C0 H locs ls hP hD hS hll
  exact lv_istore C0.1 C0.2.1 hd hll hn rfl (fun ls' hll' => kk p l e s m args below meth c D A C0 H locs ls' hP hD hS (by rw [← hl]; exact kst_has hll'))
theorem J_astore_n {x : Nat} {f : Fin 4} (hn : (f : Nat) < nL) (hl : kst (f : Nat) (.ref x) lv = lv') (hd : decode cc pc = .ok (.astore_n f, 1))
    (kk : J own nm cc nL ret d mc ms cy Q QX (pc + 1) lv' rest w cells slots)
    : J own nm cc nL ret d mc ms cy Q QX pc lv (.ref x :: rest) w cells slots := by
  intro p l e s m args below meth c D A C0 H locs ls hP hD hS hll
  exact lv_astore_n C0.1 C0.2.1 hd rfl hll hn rfl (fun ls' hll' => kk p l e s m args below meth c D A C0 H locs ls' hP hD hS (by rw [← hl]; exact kst_has hll'))
theorem J_astore {x : Nat} {f : Nat} (hn : f < nL) (hl : kst f (.ref x) lv = lv') (hd : decode cc pc = .ok (.astore f, 2))
    (kk : J own nm cc nL ret d mc ms cy Q QX (pc + 2) lv' rest w cells slots)
    : J own nm cc nL ret d mc ms cy Q QX pc lv (.ref x :: rest) w cells slots := by
  intro p l e s m args below meth c D A C0 H locs ls hP hD hS hll
  exact lv_astore C0.1 C0.2.1 hd hll hn rfl (fun ls' hll' => kk p l e s m args below meth c D A C0 H locs ls' hP hD hS (by rw [← hl]; exact kst_has hll'))
theorem J_astore_nN {f : Fin 4} (hn : (f : Nat) < nL) (hl : kst (f : Nat) .null lv = lv') (hd : decode cc pc = .ok (.astore_n f, 1))
    (kk : J own nm cc nL ret d mc ms cy Q QX (pc + 1) lv' rest w cells slots)
    : J own nm cc nL ret d mc ms cy Q QX pc lv (.null :: rest) w cells slots := by
  intro p l e s m args below meth c D A C0 H locs ls hP hD hS hll
  exact lv_astore_nN C0.1 C0.2.1 hd rfl hll hn rfl (fun ls' hll' => kk p l e s m args below meth c D A C0 H locs ls' hP hD hS (by rw [← hl]; exact kst_has hll'))
theorem J_astoreN {f : Nat} (hn : f < nL) (hl : kst f .null lv = lv') (hd : decode cc pc = .ok (.astore f, 2))
    (kk : J own nm cc nL ret d mc ms cy Q QX (pc + 2) lv' rest w cells slots)
    : J own nm cc nL ret d mc ms cy Q QX pc lv (.null :: rest) w cells slots := by
  intro p l e s m args below meth c D A C0 H locs ls hP hD hS hll
  exact lv_astoreN C0.1 C0.2.1 hd hll hn rfl (fun ls' hll' => kk p l e s m args below meth c D A C0 H locs ls' hP hD hS (by rw [← hl]; exact kst_has hll'))
theorem J_iinc {x v : Int32} {f : Nat} {n : Int} (k : Nat) (hk : lv[k]? = some (f, .int x)) (hv : x + Int32.ofInt n = v) (hn : f < nL) (hl : kst f (.int v) lv = lv') (hd : decode cc pc = .ok (.iinc f n, 3))
    (kk : J own nm cc nL ret d mc ms cy Q QX (pc + 3) lv' st w cells slots)
    : J own nm cc nL ret d mc ms cy Q QX pc lv st w cells slots := by
  intro p l e s m args below meth c D A C0 H locs ls hP hD hS hll
  exact lv_iinc C0.1 C0.2.1 hd hll hk hv hn rfl (fun ls' hll' => kk p l e s m args below meth c D A C0 H locs ls' hP hD hS (by rw [← hl]; exact kst_has hll'))
theorem J_iadd {x y : Int32} (hd : decode cc pc = .ok (.iadd, 1))
    (kk : J own nm cc nL ret d mc ms cy Q QX (pc + 1) lv (.int (x + y) :: rest) w cells slots)
    : J own nm cc nL ret d mc ms cy Q QX pc lv (.int y :: .int x :: rest) w cells slots := by
  intro p l e s m args below meth c D A C0 H locs ls hP hD hS hll
  exact lv_iadd C0.1 C0.2.1  hd  (kk p l e s m args below meth c D A C0 H locs ls hP hD hS hll)
theorem J_isub {x y : Int32} (hd : decode cc pc = .ok (.isub, 1))
    (kk : J own nm cc nL ret d mc ms cy Q QX (pc + 1) lv (.int (x - y) :: rest) w cells slots)
    : J own nm cc nL ret d mc ms cy Q QX pc lv (.int y :: .int x :: rest) w cells slots := by
  intro p l e s m args below meth c D A C0 H locs ls hP hD hS hll
  exact lv_isub C0.1 C0.2.1  hd  (kk p l e s m args below meth c D A C0 H locs ls hP hD hS hll)
theorem J_iand {x y : Int32} (hd : decode cc pc = .ok (.iand, 1))
    (kk : J own nm cc nL ret d mc ms cy Q QX (pc + 1) lv (.int (x &&& y) :: rest) w cells slots)
    : J own nm cc nL ret d mc ms cy Q QX pc lv (.int y :: .int x :: rest) w cells slots := by
  intro p l e s m args below meth c D A C0 H locs ls hP hD hS hll
  exact lv_iand C0.1 C0.2.1  hd  (kk p l e s m args below meth c D A C0 H locs ls hP hD hS hll)
theorem J_ior {x y : Int32} (hd : decode cc pc = .ok (.ior, 1))
    (kk : J own nm cc nL ret d mc ms cy Q QX (pc + 1) lv (.int (x ||| y) :: rest) w cells slots)
    : J own nm cc nL ret d mc ms cy Q QX pc lv (.int y :: .int x :: rest) w cells slots := by
  intro p l e s m args below meth c D A C0 H locs ls hP hD hS hll
  exact lv_ior C0.1 C0.2.1  hd  (kk p l e s m args below meth c D A C0 H locs ls hP hD hS hll)
theorem J_ishl {x y : Int32} (hd : decode cc pc = .ok (.ishl, 1))
    (kk : J own nm cc nL ret d mc ms cy Q QX (pc + 1) lv (.int (x <<< (y &&& 31)) :: rest) w cells slots)
    : J own nm cc nL ret d mc ms cy Q QX pc lv (.int y :: .int x :: rest) w cells slots := by
  intro p l e s m args below meth c D A C0 H locs ls hP hD hS hll
  exact lv_ishl C0.1 C0.2.1  hd  (kk p l e s m args below meth c D A C0 H locs ls hP hD hS hll)
theorem J_ishr {x y : Int32} (hd : decode cc pc = .ok (.ishr, 1))
    (kk : J own nm cc nL ret d mc ms cy Q QX (pc + 1) lv (.int (x >>> (y &&& 31)) :: rest) w cells slots)
    : J own nm cc nL ret d mc ms cy Q QX pc lv (.int y :: .int x :: rest) w cells slots := by
  intro p l e s m args below meth c D A C0 H locs ls hP hD hS hll
  exact lv_ishr C0.1 C0.2.1  hd  (kk p l e s m args below meth c D A C0 H locs ls hP hD hS hll)
theorem J_irem {x y : Int32} (hne : ¬ y = 0) (hd : decode cc pc = .ok (.irem, 1))
    (kk : J own nm cc nL ret d mc ms cy Q QX (pc + 1) lv (.int (x - x / y * y) :: rest) w cells slots)
    : J own nm cc nL ret d mc ms cy Q QX pc lv (.int y :: .int x :: rest) w cells slots := by
  intro p l e s m args below meth c D A C0 H locs ls hP hD hS hll
  exact lv_irem C0.1 C0.2.1  hd hne (kk p l e s m args below meth c D A C0 H locs ls hP hD hS hll)
theorem J_ladd {x y : Int64} (hd : decode cc pc = .ok (.ladd, 1))
    (kk : J own nm cc nL ret d mc ms cy Q QX (pc + 1) lv (.long (x + y) :: rest) w cells slots)
    : J own nm cc nL ret d mc ms cy Q QX pc lv (.long y :: .long x :: rest) w cells slots := by
  intro p l e s m args below meth c D A C0 H locs ls hP hD hS hll
  exact lv_ladd C0.1 C0.2.1  hd  (kk p l e s m args below meth c D A C0 H locs ls hP hD hS hll)
theorem J_i2l {x : Int32} (hd : decode cc pc = .ok (.i2l, 1))
    (kk : J own nm cc nL ret d mc ms cy Q QX (pc + 1) lv (.long x.toInt64 :: rest) w cells slots)
    : J own nm cc nL ret d mc ms cy Q QX pc lv (.int x :: rest) w cells slots := by
  intro p l e s m args below meth c D A C0 H locs ls hP hD hS hll
  exact lv_i2l C0.1 C0.2.1  hd rfl (kk p l e s m args below meth c D A C0 H locs ls hP hD hS hll)
theorem J_dup {v : Value} (hv : v.category = 1) (hd : decode cc pc = .ok (.dup, 1))
    (kk : J own nm cc nL ret d mc ms cy Q QX (pc + 1) lv (v :: v :: rest) w cells slots)
    : J own nm cc nL ret d mc ms cy Q QX pc lv (v :: rest) w cells slots := by
  intro p l e s m args below meth c D A C0 H locs ls hP hD hS hll
  exact lv_dup C0.1 C0.2.1  hd hv (kk p l e s m args below meth c D A C0 H locs ls hP hD hS hll)
theorem J_dup2 {v u : Value} (hv : v.category = 1) (hu : u.category = 1) (hd : decode cc pc = .ok (.dup2, 1))
    (kk : J own nm cc nL ret d mc ms cy Q QX (pc + 1) lv (v :: u :: v :: u :: rest) w cells slots)
    : J own nm cc nL ret d mc ms cy Q QX pc lv (v :: u :: rest) w cells slots := by
  intro p l e s m args below meth c D A C0 H locs ls hP hD hS hll
  exact lv_dup2_11 C0.1 C0.2.1  hd hv hu (kk p l e s m args below meth c D A C0 H locs ls hP hD hS hll)
theorem J_pop {v : Value} (hv : v.category = 1) (hd : decode cc pc = .ok (.pop, 1))
    (kk : J own nm cc nL ret d mc ms cy Q QX (pc + 1) lv rest w cells slots)
    : J own nm cc nL ret d mc ms cy Q QX pc lv (v :: rest) w cells slots := by
  intro p l e s m args below meth c D A C0 H locs ls hP hD hS hll
  exact lv_pop C0.1 C0.2.1  hd hv (kk p l e s m args below meth c D A C0 H locs ls hP hD hS hll)
theorem J_if_eq {x : Int32} {off : Int} (tgt : Nat) (ht : (pc : Int) + off = (tgt : Int)) (hd : decode cc pc = .ok (.ifCond .eq off, 3))
    (kt : x = 0 → J own nm cc nL ret d mc ms cy Q QX tgt lv rest w cells slots)
    (kf : ¬ x = 0 → J own nm cc nL ret d mc ms cy Q QX (pc + 3) lv rest w cells slots)
    : J own nm cc nL ret d mc ms cy Q QX pc lv (.int x :: rest) w cells slots := by
  intro p l e s m args below meth c D A C0 H locs ls hP hD hS hll
  exact lv_if_eq C0.1 C0.2.1 hd ht (fun h9 => kt h9 p l e s m args below meth c D A C0 H locs ls hP hD hS hll) (fun h9 => kf h9 p l e s m args below meth c D A C0 H locs ls hP hD hS hll)
theorem J_if_ne {x : Int32} {off : Int} (tgt : Nat) (ht : (pc : Int) + off = (tgt : Int)) (hd : decode cc pc = .ok (.ifCond .ne off, 3))
    (kt : ¬ x = 0 → J own nm cc nL ret d mc ms cy Q QX tgt lv rest w cells slots)
    (kf : x = 0 → J own nm cc nL ret d mc ms cy Q QX (pc + 3) lv rest w cells slots)
    : J own nm cc nL ret d mc ms cy Q QX pc lv (.int x :: rest) w cells slots := by
  intro p l e s m args below meth c D A C0 H locs ls hP hD hS hll
  exact lv_if_ne C0.1 C0.2.1 hd ht (fun h9 => kt h9 p l e s m args below meth c D A C0 H locs ls hP hD hS hll) (fun h9 => kf h9 p l e s m args below meth c D A C0 H locs ls hP hD hS hll)
theorem J_if_lt {x : Int32} {off : Int} (tgt : Nat) (ht : (pc : Int) + off = (tgt : Int)) (hd : decode cc pc = .ok (.ifCond .lt off, 3))
    (kt : x < 0 → J own nm cc nL ret d mc ms cy Q QX tgt lv rest w cells slots)
    (kf : ¬ x < 0 → J own nm cc nL ret d mc ms cy Q QX (pc + 3) lv rest w cells slots)
    : J own nm cc nL ret d mc ms cy Q QX pc lv (.int x :: rest) w cells slots := by
  intro p l e s m args below meth c D A C0 H locs ls hP hD hS hll
  exact lv_if_lt C0.1 C0.2.1 hd ht (fun h9 => kt h9 p l e s m args below meth c D A C0 H locs ls hP hD hS hll) (fun h9 => kf h9 p l e s m args below meth c D A C0 H locs ls hP hD hS hll)
theorem J_if_ge {x : Int32} {off : Int} (tgt : Nat) (ht : (pc : Int) + off = (tgt : Int)) (hd : decode cc pc = .ok (.ifCond .ge off, 3))
    (kt : 0 ≤ x → J own nm cc nL ret d mc ms cy Q QX tgt lv rest w cells slots)
    (kf : ¬ 0 ≤ x → J own nm cc nL ret d mc ms cy Q QX (pc + 3) lv rest w cells slots)
    : J own nm cc nL ret d mc ms cy Q QX pc lv (.int x :: rest) w cells slots := by
  intro p l e s m args below meth c D A C0 H locs ls hP hD hS hll
  exact lv_if_ge C0.1 C0.2.1 hd ht (fun h9 => kt h9 p l e s m args below meth c D A C0 H locs ls hP hD hS hll) (fun h9 => kf h9 p l e s m args below meth c D A C0 H locs ls hP hD hS hll)
theorem J_if_gt {x : Int32} {off : Int} (tgt : Nat) (ht : (pc : Int) + off = (tgt : Int)) (hd : decode cc pc = .ok (.ifCond .gt off, 3))
    (kt : 0 < x → J own nm cc nL ret d mc ms cy Q QX tgt lv rest w cells slots)
    (kf : ¬ 0 < x → J own nm cc nL ret d mc ms cy Q QX (pc + 3) lv rest w cells slots)
    : J own nm cc nL ret d mc ms cy Q QX pc lv (.int x :: rest) w cells slots := by
  intro p l e s m args below meth c D A C0 H locs ls hP hD hS hll
  exact lv_if_gt C0.1 C0.2.1 hd ht (fun h9 => kt h9 p l e s m args below meth c D A C0 H locs ls hP hD hS hll) (fun h9 => kf h9 p l e s m args below meth c D A C0 H locs ls hP hD hS hll)
theorem J_if_le {x : Int32} {off : Int} (tgt : Nat) (ht : (pc : Int) + off = (tgt : Int)) (hd : decode cc pc = .ok (.ifCond .le off, 3))
    (kt : x ≤ 0 → J own nm cc nL ret d mc ms cy Q QX tgt lv rest w cells slots)
    (kf : ¬ x ≤ 0 → J own nm cc nL ret d mc ms cy Q QX (pc + 3) lv rest w cells slots)
    : J own nm cc nL ret d mc ms cy Q QX pc lv (.int x :: rest) w cells slots := by
  intro p l e s m args below meth c D A C0 H locs ls hP hD hS hll
  exact lv_if_le C0.1 C0.2.1 hd ht (fun h9 => kt h9 p l e s m args below meth c D A C0 H locs ls hP hD hS hll) (fun h9 => kf h9 p l e s m args below meth c D A C0 H locs ls hP hD hS hll)
theorem J_icmp_eq {x y : Int32} {off : Int} (tgt : Nat) (ht : (pc : Int) + off = (tgt : Int)) (hd : decode cc pc = .ok (.if_icmp .eq off, 3))
    (kt : x = y → J own nm cc nL ret d mc ms cy Q QX tgt lv rest w cells slots)
    (kf : ¬ x = y → J own nm cc nL ret d mc ms cy Q QX (pc + 3) lv rest w cells slots)
    : J own nm cc nL ret d mc ms cy Q QX pc lv (.int y :: .int x :: rest) w cells slots := by
  intro p l e s m args below meth c D A C0 H locs ls hP hD hS hll
  exact lv_icmp_eq C0.1 C0.2.1 hd ht (fun h9 => kt h9 p l e s m args below meth c D A C0 H locs ls hP hD hS hll) (fun h9 => kf h9 p l e s m args below meth c D A C0 H locs ls hP hD hS hll)
theorem J_icmp_ne {x y : Int32} {off : Int} (tgt : Nat) (ht : (pc : Int) + off = (tgt : Int)) (hd : decode cc pc = .ok (.if_icmp .ne off, 3))
    (kt : ¬ x = y → J own nm cc nL ret d mc ms cy Q QX tgt lv rest w cells slots)
    (kf : x = y → J own nm cc nL ret d mc ms cy Q QX (pc + 3) lv rest w cells slots)
    : J own nm cc nL ret d mc ms cy Q QX pc lv (.int y :: .int x :: rest) w cells slots := by
  intro p l e s m args below meth c D A C0 H locs ls hP hD hS hll
  exact lv_icmp_ne C0.1 C0.2.1 hd ht (fun h9 => kt h9 p l e s m args below meth c D A C0 H locs ls hP hD hS hll) (fun h9 => kf h9 p l e s m args below meth c D A C0 H locs ls hP hD hS hll)
theorem J_icmp_lt {x y : Int32} {off : Int} (tgt : Nat) (ht : (pc : Int) + off = (tgt : Int)) (hd : decode cc pc = .ok (.if_icmp .lt off, 3))
    (kt : x < y → J own nm cc nL ret d mc ms cy Q QX tgt lv rest w cells slots)
    (kf : ¬ x < y → J own nm cc nL ret d mc ms cy Q QX (pc + 3) lv rest w cells slots)
    : J own nm cc nL ret d mc ms cy Q QX pc lv (.int y :: .int x :: rest) w cells slots := by
  intro p l e s m args below meth c D A C0 H locs ls hP hD hS hll
  exact lv_icmp_lt C0.1 C0.2.1 hd ht (fun h9 => kt h9 p l e s m args below meth c D A C0 H locs ls hP hD hS hll) (fun h9 => kf h9 p l e s m args below meth c D A C0 H locs ls hP hD hS hll)
theorem J_icmp_ge {x y : Int32} {off : Int} (tgt : Nat) (ht : (pc : Int) + off = (tgt : Int)) (hd : decode cc pc = .ok (.if_icmp .ge off, 3))
    (kt : y ≤ x → J own nm cc nL ret d mc ms cy Q QX tgt lv rest w cells slots)
    (kf : ¬ y ≤ x → J own nm cc nL ret d mc ms cy Q QX (pc + 3) lv rest w cells slots)
    : J own nm cc nL ret d mc ms cy Q QX pc lv (.int y :: .int x :: rest) w cells slots := by
  intro p l e s m args below meth c D A C0 H locs ls hP hD hS hll
  exact lv_icmp_ge C0.1 C0.2.1 hd ht (fun h9 => kt h9 p l e s m args below meth c D A C0 H locs ls hP hD hS hll) (fun h9 => kf h9 p l e s m args below meth c D A C0 H locs ls hP hD hS hll)
theorem J_icmp_gt {x y : Int32} {off : Int} (tgt : Nat) (ht : (pc : Int) + off = (tgt : Int)) (hd : decode cc pc = .ok (.if_icmp .gt off, 3))
    (kt : y < x → J own nm cc nL ret d mc ms cy Q QX tgt lv rest w cells slots)
    (kf : ¬ y < x → J own nm cc nL ret d mc ms cy Q QX (pc + 3) lv rest w cells slots)
    : J own nm cc nL ret d mc ms cy Q QX pc lv (.int y :: .int x :: rest) w cells slots := by
  intro p l e s m args below meth c D A C0 H locs ls hP hD hS hll
  exact lv_icmp_gt C0.1 C0.2.1 hd ht (fun h9 => kt h9 p l e s m args below meth c D A C0 H locs ls hP hD hS hll) (fun h9 => kf h9 p l e s m args below meth c D A C0 H locs ls hP hD hS hll)
theorem J_icmp_le {x y : Int32} {off : Int} (tgt : Nat) (ht : (pc : Int) + off = (tgt : Int)) (hd : decode cc pc = .ok (.if_icmp .le off, 3))
    (kt : x ≤ y → J own nm cc nL ret d mc ms cy Q QX tgt lv rest w cells slots)
    (kf : ¬ x ≤ y → J own nm cc nL ret d mc ms cy Q QX (pc + 3) lv rest w cells slots)
    : J own nm cc nL ret d mc ms cy Q QX pc lv (.int y :: .int x :: rest) w cells slots := by
  intro p l e s m args below meth c D A C0 H locs ls hP hD hS hll
  exact lv_icmp_le C0.1 C0.2.1 hd ht (fun h9 => kt h9 p l e s m args below meth c D A C0 H locs ls hP hD hS hll) (fun h9 => kf h9 p l e s m args below meth c D A C0 H locs ls hP hD hS hll)
theorem J_acmp_eq (rx ry : Option Nat) {off : Int} (tgt : Nat) (ht : (pc : Int) + off = (tgt : Int)) (hd : decode cc pc = .ok (.if_acmp .eq off, 3))
    (kt : rx = ry → J own nm cc nL ret d mc ms cy Q QX tgt lv rest w cells slots)
    (kf : ¬ rx = ry → J own nm cc nL ret d mc ms cy Q QX (pc + 3) lv rest w cells slots)
    : J own nm cc nL ret d mc ms cy Q QX pc lv (va_rf ry :: va_rf rx :: rest) w cells slots := by
  intro p l e s m args below meth c D A C0 H locs ls hP hD hS hll
  exact lv_acmp_eq C0.1 C0.2.1 hd ht (fun h9 => kt h9 p l e s m args below meth c D A C0 H locs ls hP hD hS hll) (fun h9 => kf h9 p l e s m args below meth c D A C0 H locs ls hP hD hS hll)
theorem J_acmp_ne (rx ry : Option Nat) {off : Int} (tgt : Nat) (ht : (pc : Int) + off = (tgt : Int)) (hd : decode cc pc = .ok (.if_acmp .ne off, 3))
    (kt : ¬ rx = ry → J own nm cc nL ret d mc ms cy Q QX tgt lv rest w cells slots)
    (kf : rx = ry → J own nm cc nL ret d mc ms cy Q QX (pc + 3) lv rest w cells slots)
    : J own nm cc nL ret d mc ms cy Q QX pc lv (va_rf ry :: va_rf rx :: rest) w cells slots := by
  intro p l e s m args below meth c D A C0 H locs ls hP hD hS hll
  exact lv_acmp_ne C0.1 C0.2.1 hd ht (fun h9 => kt h9 p l e s m args below meth c D A C0 H locs ls hP hD hS hll) (fun h9 => kf h9 p l e s m args below meth c D A C0 H locs ls hP hD hS hll)
theorem J_goto {off : Int} (tgt : Nat) (ht : (pc : Int) + off = (tgt : Int)) (hd : decode cc pc = .ok (.goto off, 3))
    (kk : J own nm cc nL ret d mc ms cy Q QX tgt lv st w cells slots)
    : J own nm cc nL ret d mc ms cy Q QX pc lv st w cells slots := by
  intro p l e s m args below meth c D A C0 H locs ls hP hD hS hll
  exact lv_goto C0.1 C0.2.1 hd ht (kk p l e s m args below meth c D A C0 H locs ls hP hD hS hll)
theorem J_ifnull {x : Nat} {off : Int} (hd : decode cc pc = .ok (.ifnull off, 3))
    (kk : J own nm cc nL ret d mc ms cy Q QX (pc + 3) lv rest w cells slots)
    : J own nm cc nL ret d mc ms cy Q QX pc lv (.ref x :: rest) w cells slots := by
  intro p l e s m args below meth c D A C0 H locs ls hP hD hS hll
  exact lv_ifnull C0.1 C0.2.1 hd (kk p l e s m args below meth c D A C0 H locs ls hP hD hS hll)
theorem J_ifnullN {off : Int} (tgt : Nat) (ht : (pc : Int) + off = (tgt : Int)) (hd : decode cc pc = .ok (.ifnull off, 3))
    (kk : J own nm cc nL ret d mc ms cy Q QX tgt lv rest w cells slots)
    : J own nm cc nL ret d mc ms cy Q QX pc lv (.null :: rest) w cells slots := by
  intro p l e s m args below meth c D A C0 H locs ls hP hD hS hll
  exact lv_ifnullN C0.1 C0.2.1 hd ht (kk p l e s m args below meth c D A C0 H locs ls hP hD hS hll)
theorem J_ifnonnull {x : Nat} {off : Int} (tgt : Nat) (ht : (pc : Int) + off = (tgt : Int)) (hd : decode cc pc = .ok (.ifnonnull off, 3))
    (kk : J own nm cc nL ret d mc ms cy Q QX tgt lv rest w cells slots)
    : J own nm cc nL ret d mc ms cy Q QX pc lv (.ref x :: rest) w cells slots := by
  intro p l e s m args below meth c D A C0 H locs ls hP hD hS hll
  exact lv_ifnonnull C0.1 C0.2.1 hd ht (kk p l e s m args below meth c D A C0 H locs ls hP hD hS hll)
theorem J_ifnonnullN {off : Int} (hd : decode cc pc = .ok (.ifnonnull off, 3))
    (kk : J own nm cc nL ret d mc ms cy Q QX (pc + 3) lv rest w cells slots)
    : J own nm cc nL ret d mc ms cy Q QX pc lv (.null :: rest) w cells slots := by
  intro p l e s m args below meth c D A C0 H locs ls hP hD hS hll
  exact lv_ifnonnullN C0.1 C0.2.1 hd (kk p l e s m args below meth c D A C0 H locs ls hP hD hS hll)
theorem J_ireturn {v : Int32} {ty : FieldType} (hr : ret = some ty) (hn : narrow ty (.int v) = .int v) (hd : decode cc pc = .ok (.ireturn, 1)) (hq : Q (some (.int v)) w) (hc : cells ≤ mc) (hs : slots ≤ ms) : J own nm cc nL ret d mc ms cy Q QX pc lv [.int v] w cells slots := by
  intro p l e s m args below meth c D A C0 H locs ls hP hD hS hll
  refine W.widen hc hs (vx_ret ?_)
  exact W.zret (v := v) C0.1 C0.2.1 (C0.2.2.2.1.trans hr) hn (fun t ht hW => ⟨⟨_, w, rfl, hq, by rw [ht]; exact hP, hD⟩, hS.F ht⟩) hS.2.2 hd C0.2.2.2.2.1
theorem J_lreturn {v : Int64} (hr : ret = some .long) (hd : decode cc pc = .ok (.lreturn, 1)) (hq : Q (some (.long v)) w) (hc : cells ≤ mc) (hs : slots ≤ ms) : J own nm cc nL ret d mc ms cy Q QX pc lv [.long v] w cells slots := by
  intro p l e s m args below meth c D A C0 H locs ls hP hD hS hll
  refine W.widen hc hs (vx_ret ?_)
  exact W.lret (v := v) C0.1 C0.2.1 (C0.2.2.2.1.trans hr) (fun t ht hW => ⟨⟨_, w, rfl, hq, by rw [ht]; exact hP, hD⟩, hS.F ht⟩) hS.2.2 hd C0.2.2.2.2.1
theorem J_dreturn {v : UInt64} (hr : ret = some .double) (hd : decode cc pc = .ok (.dreturn, 1)) (hq : Q (some (.double v)) w) (hc : cells ≤ mc) (hs : slots ≤ ms) : J own nm cc nL ret d mc ms cy Q QX pc lv [.double v] w cells slots := by
  intro p l e s m args below meth c D A C0 H locs ls hP hD hS hll
  refine W.widen hc hs (vx_ret ?_)
  exact W.dret (v := v) C0.1 C0.2.1 (C0.2.2.2.1.trans hr) (fun t ht hW => ⟨⟨_, w, rfl, hq, by rw [ht]; exact hP, hD⟩, hS.F ht⟩) hS.2.2 hd C0.2.2.2.2.1
theorem J_freturn {v : UInt32} (hr : ret = some .float) (hd : decode cc pc = .ok (.freturn, 1)) (hq : Q (some (.float v)) w) (hc : cells ≤ mc) (hs : slots ≤ ms) : J own nm cc nL ret d mc ms cy Q QX pc lv [.float v] w cells slots := by
  intro p l e s m args below meth c D A C0 H locs ls hP hD hS hll
  refine W.widen hc hs (vx_ret ?_)
  exact W.fret (v := v) C0.1 C0.2.1 (C0.2.2.2.1.trans hr) (fun t ht hW => ⟨⟨_, w, rfl, hq, by rw [ht]; exact hP, hD⟩, hS.F ht⟩) hS.2.2 hd C0.2.2.2.2.1
theorem J_areturn {v : Value} {rt : FieldType} (hr : ret = some rt) (hrt : (∃ n, rt = .object n) ∨ ∃ t, rt = .array t) (hv : v = .null ∨ ∃ a, v = .ref a) (hd : decode cc pc = .ok (.areturn, 1)) (hq : Q (some v) w) (hc : cells ≤ mc) (hs : slots ≤ ms) : J own nm cc nL ret d mc ms cy Q QX pc lv [v] w cells slots := by
  intro p l e s m args below meth c D A C0 H locs ls hP hD hS hll
  refine W.widen hc hs (vx_ret ?_)
  exact W.aret (v := v) C0.1 C0.2.1 (C0.2.2.2.1.trans hr) hrt hv (fun t ht hW => ⟨⟨_, w, rfl, hq, by rw [ht]; exact hP, hD⟩, hS.F ht⟩) hS.2.2 hd C0.2.2.2.2.1
theorem J_return (hr : ret = none) (hd : decode cc pc = .ok (.return_, 1)) (hq : Q none w) (hc : cells ≤ mc) (hs : slots ≤ ms) : J own nm cc nL ret d mc ms cy Q QX pc lv [] w cells slots := by
  intro p l e s m args below meth c D A C0 H locs ls hP hD hS hll
  refine W.widen hc hs (vx_ret ?_)
  exact W.vret C0.1 C0.2.1 (C0.2.2.2.1.trans hr) (fun t ht hW => ⟨⟨_, w, rfl, hq, by rw [ht]; exact hP, hD⟩, hS.F ht⟩) hS.2.2 hd C0.2.2.2.2.1
/-- fewer locals, other words for them -/
theorem J_sub (ks : List Nat) (hl : lv_pick lv ks = lv') (kk : J own nm cc nL ret d mc ms cy Q QX pc lv' st w cells slots) : J own nm cc nL ret d mc ms cy Q QX pc lv st w cells slots := by
  intro p l e s m args below meth c D A C0 H locs ls hP hD hS hll
  exact kk p l e s m args below meth c D A C0 H locs ls hP hD hS (lv_sub hll ks hl)
theorem J_widen {k n : Nat} (hc : cells ≤ k) (hs : slots ≤ n) (kk : J own nm cc nL ret d mc ms cy Q QX pc lv st w k n) : J own nm cc nL ret d mc ms cy Q QX pc lv st w cells slots := by
  intro p l e s m args below meth c D A C0 H locs ls hP hD hS hll
  exact W.widen hc hs (kk p l e s m args below meth c D A C0 H locs ls hP hD hS hll)
theorem J_eq {w' : va_W} {lv' : List (Nat × Value)} {st' : List Value} (hw : w = w') (hl : lv = lv') (hs : st = st') (kk : J own nm cc nL ret d mc ms cy Q QX pc lv' st' w' cells slots) : J own nm cc nL ret d mc ms cy Q QX pc lv st w cells slots := by
  subst hw; subst hl; subst hs; exact kk
theorem J_top {x : Int32} (kk : ∀ y : Int32, y = x → J own nm cc nL ret d mc ms cy Q QX pc lv (.int y :: rest) w cells slots) : J own nm cc nL ret d mc ms cy Q QX pc lv (.int x :: rest) w cells slots := kk x rfl
theorem J_topeq {x : Int32} (y : Int32) (h : x = y) (kk : J own nm cc nL ret d mc ms cy Q QX pc lv (.int y :: rest) w cells slots) : J own nm cc nL ret d mc ms cy Q QX pc lv (.int x :: rest) w cells slots := by rw [h]; exact kk
end KR
