/-! OWN FRAME: J, one judgement for all methods: a world w (a list of cells), locals and stack in plain values; everything of the machine is hidden in it. -/
def kT : List Cond := lw_tbl.filter goodWord
theorem kT_lw : ∀ w ∈ kT, w ∈ lw_tbl := fun w h => (List.mem_filter.mp h).1
theorem kT_of {w : Cond} {i : Nat} (h : lw_tbl[i]? = some w) (g : goodWord w = true) : w ∈ kT := List.mem_filter.mpr ⟨List.mem_of_getElem? h, g⟩
theorem kT_good {y : MethodName} {cc : ByteArray} {nL : Nat} {ret : Option FieldType} {y2 : MethodName} {cc2 : ByteArray} {nL2 : Nat} {ret2 : Option FieldType} (h : Cond.code y2 cc2 nL2 ret2 ∈ kT) : GoodIn (Cond.code y cc nL ret :: kT) (Cond.code y2 cc2 nL2 ret2 :: kT) := by
  intro w hw
  have h1 : w ∈ kT := by
    rcases List.mem_cons.mp hw with rfl | h2
    · exact h
    · exact h2
  exact ⟨List.mem_cons_of_mem _ h1, good_of_word (List.mem_filter.mp h1).2⟩
abbrev kCl : List vw_C := vwCl
abbrev kTys (cy : Nat → ClassId) : List (ClassId × FieldType) := [(cy 0, .int), (cy 1, .char), (cy 2, .boolean), (cy 3, .long), (cy 4, .double), (cy 5, .object "FoghornExchange$RadioCall"), (cy 6, .object "FoghornExchange$Station"), (cy 7, .object "FoghornExchange$Entry"), (cy 8, .array .int)]
def kExc : List String := ["java/lang/IllegalArgumentException", "java/lang/IllegalStateException", "java/lang/IndexOutOfBoundsException", "java/util/NoSuchElementException", "java/lang/ArithmeticException"]
/-- what a state gives beside the world: classes and arrays as the tables have them, castability of the exceptions, the nest mates' links, the texts, the two statics of Throwable -/
def kNestM : List (String × Nat × MethodName) := [("FoghornExchange$RadioCall", 37, yX7_weightOf), ("FoghornExchange$LogBook", 17, yX2_init), ("FoghornExchange$Coast", 32, yX6_init), ("FoghornExchange", 25, yX0_init), ("FoghornExchange", 18, yX3_init)]
def kAOA (U : State) : Prop := (Cond.arrayOver (.array .int)).before #[] U = true
theorem kAOA.moved {u U : State} (hvm : u.vm.Alike U.vm) (h : kAOA u) : kAOA U := by
  have h2 := Cond.arrayOver_setVmC (args := #[]) (s := u) (vm' := U.vm) hvm (.array .int)
  have h3 : (Cond.arrayOver (.array .int)).before #[] (u.setVm U.vm) = true := by rw [h2]; exact h
  exact h3
def kDecl : List MethodName := [⟨"java/lang/RuntimeException", "<init>", "(Ljava/lang/String;)V"⟩, ⟨"java/lang/Exception", "<init>", "(Ljava/lang/String;)V"⟩, ⟨"java/lang/Throwable", "<init>", "(Ljava/lang/String;)V"⟩]
def kNest (U : State) : Prop := (∀ q ∈ kNestM, va_Nw (.methodLinkNest q.1 q.2.1 q.2.2 "FoghornExchange") U) ∧ va_Nw (.fieldLinkNest "FoghornExchange" 251 "FoghornExchange$LogBook" "total" "I" "FoghornExchange") U ∧ (∀ C ∈ ["FoghornExchange$RadioCall", "FoghornExchange$Station", "FoghornExchange$Entry"], va_AO C U) ∧ kAOA U ∧ ∀ y ∈ kDecl, va_Nw (.declares y) U
theorem kNest.warm {s U : State} (hW : s.WarmedH U.vm) (h : kNest s) : kNest U := ⟨fun q hq => va_Nw.warmM hW (h.1 q hq), va_Nw.warmF hW h.2.1, fun C hC => va_AO.moved hW.alike (h.2.2.1 C hC), kAOA.moved hW.alike h.2.2.2.1, fun y hy => va_Nw.warmD hW (h.2.2.2.2 y hy)⟩
theorem kNest.same {s U : State} (hv : s.vm = U.vm) (h : kNest s) : kNest U := ⟨fun q hq => va_Nw.same rfl hv (h.1 q hq), va_Nw.same rfl hv h.2.1, fun C hC => va_AO.moved (by rw [hv]; exact Vm.Alike.refl U.vm) (h.2.2.1 C hC), kAOA.moved (by rw [hv]; exact Vm.Alike.refl U.vm) h.2.2.2.1, fun y hy => va_Nw.same rfl hv (h.2.2.2.2 y hy)⟩
def kStr : List (String × Nat × String) := [("FoghornExchange$Coast", 49, "no such station"), ("FoghornExchange", 49, "place or reach out of range"), ("FoghornExchange", 60, "no more stations"), ("FoghornExchange", 74, "place out of range"), ("FoghornExchange", 298, "both stations are the same"), ("FoghornExchange", 305, "no such call"), ("FoghornExchange", 307, "no way"), ("FoghornExchange", 130, "no way, or no such index on it"), ("FoghornExchange", 140, "urgency or minutes not valid"), ("FoghornExchange", 145, "no more calls"), ("FoghornExchange", 159, "the call neither waits nor speaks"), ("FoghornExchange", 181, "no such urgency to raise to"), ("FoghornExchange", 186, "the call is not open, or its urgency is not less"), ("FoghornExchange", 198, "the call does not speak"), ("FoghornExchange", 302, "no such channel"), ("FoghornExchange", 220, "minutes out of range"), ("FoghornExchange", 233, "minutes neither 0 nor in range"), ("FoghornExchange", 244, "the station is off or has no watch"), ("FoghornExchange", 246, "the station has no watch"), ("FoghornExchange$LogBook", 46, "no such entry"), ("FoghornExchange", 272, "no call has begun"), ("FoghornExchange", 278, "no minute has passed")]
def KX (cy : Nat → ClassId) (D : va_G) (A : Nat → Prop) (U : State) (H : Heap) : Prop :=
  va_K D kCl (kTys cy) U ∧ (∀ C ∈ kExc, va_Nw (.castable C C) U) ∧ kNest U ∧ (∀ q ∈ kStr, ∃ a, vk_R q.1 q.2.1 q.2.2 a U) ∧
  vx_Zq Bundle.tN "UNASSIGNED_STACK" Bundle.steD A U H ∧ vx_Zq Bundle.tN "SUPPRESSED_SENTINEL" Bundle.listD A U H
theorem KX.warm {cy : Nat → ClassId} {D : va_G} {A B : Nat → Prop} {s U : State} {H0 H : Heap} (hW : s.WarmedH U.vm) (h : KX cy D A s H0) (hq : ∀ a : Nat, a < H0.size → ¬ A a → H[a]? = H0[a]?) (hAB : ∀ q, B q → A q) : KX cy D B U H := by
  obtain ⟨h1, h2, h3, h4, h5, h6⟩ := h
  exact ⟨va_K.moved hW.alike h1, fun C hC => va_Nw.warmC hW (h2 C hC), h3.warm hW, fun q hq => (h4 q hq).imp fun a ha => vk_R.warm hW ha,
    ((h5.kept hq).moved hW.alike).narrow hAB, ((h6.kept hq).moved hW.alike).narrow hAB⟩
theorem KX.same {cy : Nat → ClassId} {D : va_G} {A : Nat → Prop} {s U : State} {H : Heap} (hv : s.vm = U.vm) (h : KX cy D A s H) : KX cy D A U H := by
  obtain ⟨h1, h2, h3, h4, h5, h6⟩ := h
  have ha : s.vm.Alike U.vm := by rw [hv]; exact Vm.Alike.refl U.vm
  exact ⟨va_K.moved ha h1, fun C hC => va_Nw.same rfl hv (h2 C hC), h3.same hv, fun q hq => (h4 q hq).imp fun a hx => vk_R.same hv.symm hx, h5.moved ha, h6.moved ha⟩
abbrev kR (d mc ms : Nat) : Room := { frames := d, cells := mc, slots := ms, locals := 40 * d + 100 }
abbrev kQT : Type := Option Value → va_W → Prop
abbrev kXT : Type := String → va_W → Prop
def kQ (D : va_G) (A : Nat → Prop) (Q : kQT) : Array Value → State → Outcome → State → Prop := fun _ st o t => (∃ (r : Option Value) (w : va_W), o = .returned r ∧ Q r w ∧ va_P D kCl w t.heap ∧ va_D A w) ∧ va_F A st t
def kXQ (D : va_G) (A : Nat → Prop) (QX : kXT) : String → State → State → Prop := fun E st t => ∃ w : va_W, QX E w ∧ va_P D kCl w t.heap ∧ va_D A w ∧ va_F A st t
/-- what holds of a method's body, whatever calls it -/
def Cx (own nm : String) (cc : ByteArray) (nL : Nat) (ret : Option FieldType) (cy : Nat → ClassId) (p : Program) (l : Launch) (s : State) (m : MethodId) (args : Array Value) (meth : Method) (c : Code) (D : va_G) (A : Nat → Prop) : Prop :=
  p.tables.exec = Jvm.exec ∧ c.code = cc ∧ c.maxLocals = nL ∧ meth.sig.returnType = ret ∧ meth.locks = false ∧ (∀ x ∈ c.exceptionTable.toList, False) ∧ meth.name = nm ∧ s.vm.findClass own = some m.cls ∧ (∃ y0 : MethodName, ∀ w ∈ Cond.code y0 cc nL ret :: kT, w.before args s = true) ∧ KX cy D A s s.heap ∧ (∀ q, s.heap.size ≤ q → A q) ∧ l.stackTraces = false
def J (own nm : String) (cc : ByteArray) (nL : Nat) (ret : Option FieldType) (d mc ms : Nat) (cy : Nat → ClassId) (Q : kQT) (QX : kXT) (pc : Nat) (lv : List (Nat × Value)) (st : List Value) (w : va_W) (cells slots : Nat) : Prop :=
  ∀ (p : Program) (l : Launch) (e : Env) (s : State) (m : MethodId) (args : Array Value) (below : List Frame) (meth : Method) (c : Code) (D : va_G) (A : Nat → Prop), Cx own nm cc nL ret cy p l s m args meth c D A →
    ∀ (H : Heap) (locs : List Loc) (ls : Array Slot), va_P D kCl w H → va_D A w → va_S A s.heap H locs → lv_has ls nL lv →
      W p l e (kR d mc ms) s m args below meth c H locs cells slots (vx_MQ below (kQ D A Q) (kXQ D A QX) args s mc ms A) (F0 m pc ls st)
/-- a method's contract, from the world w with the arguments av -/
def Con (y : MethodName) (cc : ByteArray) (nL : Nat) (ret : Option FieldType) (d mc ms : Nat) (cy : Nat → ClassId) (av : List Value) (w : va_W) (Q : kQT) (QX : kXT) : Prop :=
  ∀ (l : Launch), l.stackTraces = false → ∀ (D : va_G) (sz : Nat), vx_Met l y (Cond.code y cc nL ret :: kT) (kR d mc ms)
    (va_Pc av (fun U => U.heap.size = sz ∧ va_P D kCl w U.heap ∧ va_D (fun _ => True) w ∧ KX cy D (va_A w sz) U U.heap)) (kQ D (va_A w sz) Q) (kXQ D (va_A w sz) QX) mc ms (va_A w sz)
set_option maxHeartbeats 4000000 in
theorem Con_of {y : MethodName} {cc : ByteArray} {nL : Nat} {ret : Option FieldType} {d mc ms : Nat} {cy : Nat → ClassId} {av : List Value} {w : va_W} {Q : kQT} {QX : kXT} (hy : plainName y.cls = true) (hlen : (lg_sl av).length ≤ nL)
    (h : J y.cls y.name cc nL ret d mc ms cy Q QX 0 (lv_args 0 av) [] w 0 0) : Con y cc nL ret d mc ms cy av w Q QX := by
  intro l hl D sz
  refine vx_ofW (cc := cc) (maxL := nL) (ret := ret) (ws' := kT) hy rfl ?_
  intro p e s m args below meth c s₁ B hml ht hv
  obtain ⟨rfl, hsz, hP, hD0, hK⟩ := hv
  subst hsz
  have hts := atoms_spec (ws := Cond.code y cc nL ret :: kT) B.pre
  have hD := hD0.self (sz := s.heap.size)
  have hll := lv_entry av (n := nL) hlen
  rw [lg_entry_eq]
  exact h p l e s m av.toArray below meth c D (va_A w s.heap.size) ⟨B.exec, B.bytes, hml, B.returns, B.notSynchronized, ht, (name_of_methodNamed B.named B.method).1, findClass_of_methodNamed B.named, ⟨y, hts⟩, hK, fun q hq => Or.inr hq, hl⟩ s.heap [] _ hP hD va_S.rf hll
/-- the contract with a weaker end -/
theorem J.mono {own nm : String} {cc : ByteArray} {nL : Nat} {ret : Option FieldType} {d mc ms : Nat} {cy : Nat → ClassId} {Q Q' : kQT} {QX QX' : kXT} {pc : Nat} {lv : List (Nat × Value)} {st : List Value} {w : va_W} {cells slots : Nat}
    (h : J own nm cc nL ret d mc ms cy Q QX pc lv st w cells slots) (hQ : ∀ r w', Q r w' → Q' r w') (hX : ∀ E w', QX E w' → QX' E w') : J own nm cc nL ret d mc ms cy Q' QX' pc lv st w cells slots := by
  intro p l e s m args below meth c D A C0 H locs ls hP hD hS hll T hT X
  obtain ⟨t, a1, o, b1, b2, b3⟩ := h p l e s m args below meth c D A C0 H locs ls hP hD hS hll T hT X
  refine ⟨t, a1, o, b1, b2, ?_⟩
  rcases b3 with ⟨⟨⟨r, w', h1, h2, h3⟩, h4⟩, h5⟩ | ⟨q, rfl, E, ce, L, ⟨w', h1, h2⟩, h3⟩
  · exact Or.inl ⟨⟨⟨r, w', h1, hQ r w' h2, h3⟩, h4⟩, h5⟩
  · exact Or.inr ⟨q, rfl, E, ce, L, ⟨w', hX E w' h1, h2⟩, h3⟩
