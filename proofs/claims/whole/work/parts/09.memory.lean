/-! MEMORY: a world by names (kind, index); I, L, R hold the ints, the longs, the references that change, by kind, index and place. -/
section KM
def ku {α : Type} (F : Nat → Nat → Nat → α) (k i f : Nat) (v : α) : Nat → Nat → Nat → α := fun k' i' f' => if k' = k then (if i' = i then (if f' = f then v else F k' i' f') else F k' i' f') else F k' i' f'
theorem ku_eq {α : Type} (F : Nat → Nat → Nat → α) (k i f : Nat) (v : α) : ku F k i f v k i f = v := by simp [ku]
theorem ku_k {α : Type} (F : Nat → Nat → Nat → α) {k i f k' : Nat} (v : α) (i' f' : Nat) (h : k' ≠ k) : ku F k i f v k' i' f' = F k' i' f' := by simp [ku, h]
theorem ku_i {α : Type} (F : Nat → Nat → Nat → α) {k i f i' : Nat} (v : α) (k' f' : Nat) (h : i' ≠ i) : ku F k i f v k' i' f' = F k' i' f' := by simp [ku, h]
theorem ku_f {α : Type} (F : Nat → Nat → Nat → α) {k i f f' : Nat} (v : α) (k' i' : Nat) (h : f' ≠ f) : ku F k i f v k' i' f' = F k' i' f' := by simp [ku, h]
theorem ku_row {α : Type} (F : Nat → Nat → Nat → α) {k i f k' i' : Nat} (v : α) (h : (k', i') ≠ (k, i)) : ku F k i f v k' i' = F k' i' := by
  funext f'
  by_cases hk : k' = k
  · exact ku_i F v k' f' (fun z => h (by rw [hk, z]))
  · exact ku_k F v i' f' hk
theorem ku_own {α : Type} (F : Nat → Nat → Nat → α) (k i f : Nat) (v : α) : ku F k i f v k i = fun f' => if f' = f then v else F k i f' := by
  funext f'
  simp [ku]
abbrev kI : Type := Nat → Nat → Nat → Int32
abbrev kL : Type := Nat → Nat → Nat → Int64
abbrev kRf : Type := Nat → Nat → Nat → Option Nat
abbrev kSh : Type := Nat → Nat → (Nat → Int32) → (Nat → Int64) → (Nat → Option Nat) → va_E
def ka (S : Nat → Nat → Nat) (k i : Nat) : Nat := if k = 20 then i else S k i
def kw (S : Nat → Nat → Nat) (sh : kSh) (I : kI) (L : kL) (R : kRf) (NL : List (Nat × Nat)) : va_W := NL.map (fun n => (ka S n.1 n.2, sh n.1 n.2 (I n.1 n.2) (L n.1 n.2) (R n.1 n.2)))
variable {S : Nat → Nat → Nat} {sh : kSh} {I I' : kI} {L L' : kL} {R R' : kRf} {NL : List (Nat × Nat)}
theorem kw_get {k i : Nat} (h : (k, i) ∈ NL) : ∃ q0 : Nat, (kw S sh I L R NL)[q0]? = some (ka S k i, sh k i (I k i) (L k i) (R k i)) ∧ NL[q0]? = some (k, i) := by
  obtain ⟨q0, hq⟩ := List.getElem?_of_mem h
  exact ⟨q0, by unfold kw; rw [List.getElem?_map, hq]; rfl, hq⟩
theorem kw_congr (h : ∀ n ∈ NL, sh n.1 n.2 (I n.1 n.2) (L n.1 n.2) (R n.1 n.2) = sh n.1 n.2 (I' n.1 n.2) (L' n.1 n.2) (R' n.1 n.2)) : kw S sh I L R NL = kw S sh I' L' R' NL := List.map_congr_left (fun n hn => by rw [h n hn])
theorem kw_app {N1 N2 : List (Nat × Nat)} : kw S sh I L R (N1 ++ N2) = kw S sh I L R N1 ++ kw S sh I L R N2 := List.map_append
theorem kw_set {A : Nat → Prop} {k i q0 : Nat} {e' : va_E} (hD : va_D A (kw S sh I L R NL)) (hq : NL[q0]? = some (k, i)) (he : e' = sh k i (I' k i) (L' k i) (R' k i)) (ho : ∀ k' i', (k', i') ≠ (k, i) → I' k' i' = I k' i' ∧ L' k' i' = L k' i' ∧ R' k' i' = R k' i') :
    (kw S sh I L R NL).set q0 (ka S k i, e') = kw S sh I' L' R' NL := by
  have hl := (List.getElem?_eq_some_iff.mp hq).1
  refine List.ext_getElem? fun j => ?_
  by_cases hj : q0 = j
  · subst hj
    rw [List.getElem?_set_self (by unfold kw; rw [List.length_map]; exact hl)]
    unfold kw
    rw [List.getElem?_map, hq, he]
    rfl
  · rw [List.getElem?_set_ne hj]
    unfold kw
    rw [List.getElem?_map, List.getElem?_map]
    cases hn : NL[j]? with
    | none => rfl
    | some n =>
      obtain ⟨k', i'⟩ := n
      have hne : (k', i') ≠ (k, i) := by
        intro z
        rw [z] at hn
        refine hj (hD.1 q0 j _ _ (by unfold kw; rw [List.getElem?_map, hq]; rfl) (by unfold kw; rw [List.getElem?_map, hn]; rfl) rfl)
      obtain ⟨h1, h2, h3⟩ := ho k' i' hne
      simp only [Option.map_some, h1, h2, h3]
variable {own nm : String} {cc : ByteArray} {nL : Nat} {ret : Option FieldType} {d mc ms : Nat} {cy : Nat → ClassId} {Q : kQT} {QX : kXT} {pc : Nat} {lv lv' : List (Nat × Value)} {st rest : List Value} {w : va_W} {cells slots : Nat}
variable {k i : Nat}
theorem Cx.hts {p : Program} {l : Launch} {s : State} {m : MethodId} {args : Array Value} {meth : Method} {c : Code} {D : va_G} {A : Nat → Prop} (h : Cx own nm cc nL ret cy p l s m args meth c D A) : ∀ w ∈ kT, w.before args s = true := by
  obtain ⟨y0, hy⟩ := h.2.2.2.2.2.2.2.2.1
  exact fun w hw => hy w (List.mem_cons_of_mem _ hw)
theorem J_getf {f N ci index : Nat} {C : String} {T : u_T} {fs : List Value} {v : Value} (hm : (k, i) ∈ NL) (he : sh k i (I k i) (L k i) (R k i) = .inr (ci, fs)) (hc : kCl[ci]? = some (C, T, N)) (hin : ∀ w ∈ u_ws C T N, w ∈ kT) (hf : f < N) (hlink : Cond.fieldLink own index (T f).1 (T f).2.1 (T f).2.2.1 ∈ kT) (hv : fs[f]? = some v)
    (hd : decode cc pc = .ok (.getfield index, 3)) (kk : J own nm cc nL ret d mc ms cy Q QX (pc + 3) lv (v :: rest) (kw S sh I L R NL) cells slots) : J own nm cc nL ret d mc ms cy Q QX pc lv (.ref (ka S k i) :: rest) (kw S sh I L R NL) cells slots := by
  intro p l e s m args below meth c D A C0 H locs ls hP hD hS hll
  obtain ⟨q0, hq, -⟩ := kw_get (S := S) (sh := sh) (I := I) (L := L) (R := R) hm
  rw [he] at hq
  exact va_get (D := D) (ci := ci) (v := v) (C := C) (T := T) (N := N) C0.1 C0.2.1 C0.hts hin C0.2.2.2.2.2.2.2.1 C0.2.2.2.2.2.2.2.2.2.1.1 hP q0 hq hc f hf (C0.hts _ hlink) (fun _ h9 => h9) hv hd (kk p l e s m args below meth c D A C0 H locs ls hP hD hS hll)
theorem J_putf {f N ci index : Nat} {C : String} {T : u_T} {fs : List Value} {v : Value} {ty : FieldType} (hm : (k, i) ∈ NL) (he : sh k i (I k i) (L k i) (R k i) = .inr (ci, fs)) (hc : kCl[ci]? = some (C, T, N)) (hin : ∀ w ∈ u_ws C T N, w ∈ kT) (ty0 : Nat → FieldType) (hty : ∀ k, k < N → parseFieldDescriptor (T k).2.2.1 = some (ty0 k)) (hnm : ∀ a, a < N → ∀ b, b < N → a ≠ b → (T a).2.1 ≠ (T b).2.1)
    (hf : f < N) (hlink : Cond.fieldLink own index (T f).1 (T f).2.1 (T f).2.2.1 ∈ kT) (hfin : (T f).2.2.2 = false) (hdt : parseFieldDescriptor (T f).2.2.1 = some ty) (hn : narrow ty v = v) (hfit : fits ty v = true) (hl : f < fs.length)
    (he' : .inr (ci, fs.set f v) = sh k i (I' k i) (L' k i) (R' k i)) (ho : ∀ k' i', (k', i') ≠ (k, i) → I' k' i' = I k' i' ∧ L' k' i' = L k' i' ∧ R' k' i' = R k' i')
    (hd : decode cc pc = .ok (.putfield index, 3)) (kk : J own nm cc nL ret d mc ms cy Q QX (pc + 3) lv rest (kw S sh I' L' R' NL) cells slots) : J own nm cc nL ret d mc ms cy Q QX pc lv (v :: .ref (ka S k i) :: rest) (kw S sh I L R NL) cells slots := by
  intro p l e s m args below meth c D A C0 H locs ls hP hD hS hll
  obtain ⟨q0, hq, hq2⟩ := kw_get (S := S) (sh := sh) (I := I) (L := L) (R := R) hm
  rw [he] at hq
  refine va_put (D := D) (ci := ci) (v := v) (ty := ty) (C := C) (T := T) (N := N) C0.1 C0.2.1 C0.hts hin ty0 hty hnm C0.2.2.2.2.2.2.2.1 C0.2.2.2.2.2.2.2.2.2.1.1 hP hD hS q0 hq hc f hf (C0.hts _ hlink) (fun _ h9 => h9) hfin hdt hn hfit hl hd (fun H1 locs1 hP1 hD1 hS1 => ?_)
  rw [kw_set (I' := I') (L' := L') (R' := R') hD hq2 he' ho] at hP1 hD1
  exact kk p l e s m args below meth c D A C0 H1 locs1 ls hP1 hD1 hS1 hll
theorem J_putfF {f N ci index : Nat} {C : String} {T : u_T} {fs : List Value} {v : Value} {ty : FieldType} (hm : (k, i) ∈ NL) (he : sh k i (I k i) (L k i) (R k i) = .inr (ci, fs)) (hc : kCl[ci]? = some (C, T, N)) (hin : ∀ w ∈ u_ws C T N, w ∈ kT) (ty0 : Nat → FieldType) (hty : ∀ k, k < N → parseFieldDescriptor (T k).2.2.1 = some (ty0 k)) (hnm : ∀ a, a < N → ∀ b, b < N → a ≠ b → (T a).2.1 ≠ (T b).2.1)
    (hf : f < N) (hlink : Cond.fieldLink own index (T f).1 (T f).2.1 (T f).2.2.1 ∈ kT) (hfin : (T f).2.2.2 = true) (hini : nm = "<init>") (hdecl : (T f).1 = own) (hdt : parseFieldDescriptor (T f).2.2.1 = some ty) (hn : narrow ty v = v) (hfit : fits ty v = true) (hl : f < fs.length)
    (he' : .inr (ci, fs.set f v) = sh k i (I' k i) (L' k i) (R' k i)) (ho : ∀ k' i', (k', i') ≠ (k, i) → I' k' i' = I k' i' ∧ L' k' i' = L k' i' ∧ R' k' i' = R k' i')
    (hd : decode cc pc = .ok (.putfield index, 3)) (kk : J own nm cc nL ret d mc ms cy Q QX (pc + 3) lv rest (kw S sh I' L' R' NL) cells slots) : J own nm cc nL ret d mc ms cy Q QX pc lv (v :: .ref (ka S k i) :: rest) (kw S sh I L R NL) cells slots := by
  intro p l e s m args below meth c D A C0 H locs ls hP hD hS hll
  obtain ⟨q0, hq, hq2⟩ := kw_get (S := S) (sh := sh) (I := I) (L := L) (R := R) hm
  rw [he] at hq
  refine va_putF (D := D) (ci := ci) (v := v) (ty := ty) (C := C) (T := T) (N := N) C0.1 C0.2.1 C0.hts hin ty0 hty hnm C0.2.2.2.2.2.2.2.1 C0.2.2.2.2.2.2.2.2.2.1.1 hP hD hS q0 hq hc f hf (C0.hts _ hlink) (fun _ h9 => h9) hfin (C0.2.2.2.2.2.2.1.trans hini) hdecl hdt hn hfit hl hd (fun H1 locs1 hP1 hD1 hS1 => ?_)
  rw [kw_set (I' := I') (L' := L') (R' := R') hD hq2 he' ho] at hP1 hD1
  exact kk p l e s m args below meth c D A C0 H1 locs1 ls hP1 hD1 hS1 hll
end KM
