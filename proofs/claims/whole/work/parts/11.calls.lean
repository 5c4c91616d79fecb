/-! calls, throws, what is made -/
section KC
variable {S : Nat → Nat → Nat} {sh : kSh} {I I' : kI} {L L' : kL} {R R' : kRf} {NL : List (Nat × Nat)}
variable {own nm : String} {cc : ByteArray} {nL : Nat} {ret : Option FieldType} {d mc ms : Nat} {cy : Nat → ClassId} {Q : kQT} {QX : kXT} {pc : Nat} {lv lv' : List (Nat × Value)} {st rest : List Value} {w : va_W} {cells slots : Nat}
variable {k i n : Nat} {cA : ClassId}
theorem J_aald2 {f : Nat → Option Nat} {x : Int32} (j t0 : Nat) (hm : (k, i) ∈ NL) (he : sh k i (I k i) (L k i) (R k i) = .inl (cA, n, .inr (.inr (.inr (.inr f))))) (ht : (kTys cy)[t0]? = some (cA, .array .int)) (hin : vp_in x n) (hj : x.toNatClampNeg = j) (hd : decode cc pc = .ok (.aaload, 1))
    (kk : J own nm cc nL ret d mc ms cy Q QX (pc + 1) lv (va_rf (f j) :: rest) (kw S sh I L R NL) cells slots) : J own nm cc nL ret d mc ms cy Q QX pc lv (.int x :: .ref (ka S k i) :: rest) (kw S sh I L R NL) cells slots := by
  intro p l e s m args below meth c D A C0 H locs ls hP hD hS hll
  obtain ⟨q0, hq, -⟩ := kw_get (S := S) (sh := sh) (I := I) (L := L) (R := R) hm
  rw [he] at hq
  subst hj
  have hlt : x.toNatClampNeg < n := Nat.not_le.mp fun q => hin (Or.inr q)
  exact W.aald (v := va_rf (f x.toNatClampNeg)) (ty := .array .int) C0.1 C0.2.1 (hP q0 _ hq) ((C0.2.2.2.2.2.2.2.2.2.1.1.2 t0 _ ht).1 n (fun j => va_rf (f j))) rfl (fun q => by cases q) (by show ¬ (x < 0 ∨ (arrV _ _ _).slots.size ≤ _); rw [arrV_size]; exact hin) (by show (arrV _ _ _).slots[_]? = _; rw [arrV_read _ _ hlt]) rfl rfl hd (kk p l e s m args below meth c D A C0 H locs ls hP hD hS hll)
theorem J_aast {f : Nat → Option Nat} {x : Int32} {C : String} {T : u_T} {N ci k2 i2 : Nat} {vs : List Value} (j t0 : Nat) (hm : (k, i) ∈ NL) (he : sh k i (I k i) (L k i) (R k i) = .inl (cA, n, .inr (.inr (.inr (.inr f))))) (ht : (kTys cy)[t0]? = some (cA, .object C)) (hm2 : (k2, i2) ∈ NL) (he2 : sh k2 i2 (I k2 i2) (L k2 i2) (R k2 i2) = .inr (ci, vs)) (hc : kCl[ci]? = some (C, T, N)) (hin : vp_in x n) (hj : x.toNatClampNeg = j)
    (he' : .inl (cA, n, .inr (.inr (.inr (.inr (va_up f j (some (ka S k2 i2))))))) = sh k i (I' k i) (L' k i) (R' k i)) (ho : ∀ k' i', (k', i') ≠ (k, i) → I' k' i' = I k' i' ∧ L' k' i' = L k' i' ∧ R' k' i' = R k' i') (hd : decode cc pc = .ok (.aastore, 1))
    (kk : J own nm cc nL ret d mc ms cy Q QX (pc + 1) lv rest (kw S sh I' L' R' NL) cells slots) : J own nm cc nL ret d mc ms cy Q QX pc lv (.ref (ka S k2 i2) :: .int x :: .ref (ka S k i) :: rest) (kw S sh I L R NL) cells slots := by
  intro p l e s m args below meth c D A C0 H locs ls hP hD hS hll
  obtain ⟨q0, hq, hq2⟩ := kw_get (S := S) (sh := sh) (I := I) (L := L) (R := R) hm
  obtain ⟨q3, hq3, -⟩ := kw_get (S := S) (sh := sh) (I := I) (L := L) (R := R) hm2
  rw [he] at hq
  rw [he2] at hq3
  subst hj
  refine va_astq C0.1 C0.2.1 C0.2.2.2.2.2.2.2.2.2.1.1 hP hD hS q0 t0 q3 ci hq ht hq3 hc hin hd (fun H1 locs1 hP1 hD1 hS1 => ?_)
  rw [kw_set (I' := I') (L' := L') (R' := R') hD hq2 he' ho] at hP1 hD1
  exact kk p l e s m args below meth c D A C0 H1 locs1 ls hP1 hD1 hS1 hll
theorem J_aastN {f : Nat → Option Nat} {x : Int32} {C : String} (j t0 : Nat) (hm : (k, i) ∈ NL) (he : sh k i (I k i) (L k i) (R k i) = .inl (cA, n, .inr (.inr (.inr (.inr f))))) (ht : (kTys cy)[t0]? = some (cA, .object C)) (hin : vp_in x n) (hj : x.toNatClampNeg = j)
    (he' : .inl (cA, n, .inr (.inr (.inr (.inr (va_up f j none))))) = sh k i (I' k i) (L' k i) (R' k i)) (ho : ∀ k' i', (k', i') ≠ (k, i) → I' k' i' = I k' i' ∧ L' k' i' = L k' i' ∧ R' k' i' = R k' i') (hd : decode cc pc = .ok (.aastore, 1))
    (kk : J own nm cc nL ret d mc ms cy Q QX (pc + 1) lv rest (kw S sh I' L' R' NL) cells slots) : J own nm cc nL ret d mc ms cy Q QX pc lv (.null :: .int x :: .ref (ka S k i) :: rest) (kw S sh I L R NL) cells slots := by
  intro p l e s m args below meth c D A C0 H locs ls hP hD hS hll
  obtain ⟨q0, hq, hq2⟩ := kw_get (S := S) (sh := sh) (I := I) (L := L) (R := R) hm
  rw [he] at hq
  subst hj
  refine va_astqN C0.1 C0.2.1 C0.2.2.2.2.2.2.2.2.2.1.1 hP hD hS q0 t0 hq ht hin hd (fun H1 locs1 hP1 hD1 hS1 => ?_)
  rw [kw_set (I' := I') (L' := L') (R' := R') hD hq2 he' ho] at hP1 hD1
  exact kk p l e s m args below meth c D A C0 H1 locs1 ls hP1 hD1 hS1 hll
/-- a new object, at an address q that no cell of the world has -/
theorem J_new {index N ci : Nat} {C : String} {T : u_T} {fs : List Value} (hin : ∀ w ∈ u_ws C T N, w ∈ kT) (ty : Nat → FieldType) (hty : ∀ k, k < N → parseFieldDescriptor (T k).2.2.1 = some (ty k)) (hcl : Cond.classLink own index C ∈ kT) (hinst : Cond.instantiable C N ∈ kT) (hini : Cond.initialized C ∈ kT) (hc : kCl[ci]? = some (C, T, N)) (hfs : ∀ j, j < N → defaultValue (ty j) = vp_V fs j) (hcells : cells + 1 ≤ mc) (hslots : slots + N ≤ ms) (hd : decode cc pc = .ok (.new index, 3))
    (kk : ∀ q : Nat, (∀ (k : Nat) (e : Nat × va_E), w[k]? = some e → e.1 ≠ q) → J own nm cc nL ret d mc ms cy Q QX (pc + 3) lv (.ref q :: st) (w ++ [(q, .inr (ci, fs))]) (cells + 1) (slots + N)) : J own nm cc nL ret d mc ms cy Q QX pc lv st w cells slots := by
  intro p l e s m args below meth c D A C0 H locs ls hP hD hS hll
  refine va_new (ci := ci) (fs := fs) (C := C) (T := T) (N := N) C0.1 C0.2.1 C0.hts hin ty hty C0.2.2.2.2.2.2.2.1 (C0.hts _ hcl) (C0.hts _ hinst) (C0.hts _ hini) C0.2.2.2.2.2.2.2.2.2.1.1 hP hD hS C0.2.2.2.2.2.2.2.2.2.2.1 hc hfs hcells hslots hd (fun q H1 hP1 hD1 hS1 => ?_)
  refine kk q (fun k e hk he => ?_) p l e s m args below meth c D A C0 H1 locs ls hP1 hD1 hS1 hll
  have h1 : (w ++ [(q, Sum.inr (ci, fs))])[k]? = some e := by rw [List.getElem?_append_left (List.getElem?_eq_some_iff.mp hk).1]; exact hk
  have h2 : (w ++ [((q, Sum.inr (ci, fs)) : Nat × va_E)])[w.length]? = some (q, .inr (ci, fs)) := by simp
  have h3 := hD1.1 k w.length _ _ h1 h2 he
  have h4 := (List.getElem?_eq_some_iff.mp hk).1
  omega
/-- a part of a world -/
theorem kP_mid {D : va_G} {X w2 Y : va_W} {H : Heap} (h : va_P D kCl (X ++ (w2 ++ Y)) H) : va_P D kCl X H ∧ va_P D kCl w2 H ∧ va_P D kCl Y H := by
  refine ⟨fun k q hk => h k q ?_, fun k q hk => h (X.length + k) q ?_, fun k q hk => h (X.length + (w2.length + k)) q ?_⟩
  · rw [List.getElem?_append_left (List.getElem?_eq_some_iff.mp hk).1]; exact hk
  · rw [List.getElem?_append_right (by omega), Nat.add_sub_cancel_left, List.getElem?_append_left (List.getElem?_eq_some_iff.mp hk).1]; exact hk
  · rw [List.getElem?_append_right (by omega), Nat.add_sub_cancel_left, List.getElem?_append_right (by omega), Nat.add_sub_cancel_left]; exact hk
theorem kD_mid {A : Nat → Prop} {X w2 Y : va_W} (h : va_D A (X ++ (w2 ++ Y))) : va_D A X ∧ va_D A w2 ∧ va_D A Y ∧ (∀ (a b : Nat) (p q : Nat × va_E), X[a]? = some p → w2[b]? = some q → p.1 ≠ q.1) ∧ (∀ (a b : Nat) (p q : Nat × va_E), w2[a]? = some p → Y[b]? = some q → p.1 ≠ q.1) ∧ (∀ (a b : Nat) (p q : Nat × va_E), X[a]? = some p → Y[b]? = some q → p.1 ≠ q.1) := by
  have gX : ∀ (k : Nat) (q : Nat × va_E), X[k]? = some q → (X ++ (w2 ++ Y))[k]? = some q ∧ k < X.length := fun k q hk => ⟨by rw [List.getElem?_append_left (List.getElem?_eq_some_iff.mp hk).1]; exact hk, (List.getElem?_eq_some_iff.mp hk).1⟩
  have gw : ∀ (k : Nat) (q : Nat × va_E), w2[k]? = some q → (X ++ (w2 ++ Y))[X.length + k]? = some q ∧ k < w2.length := fun k q hk => ⟨by rw [List.getElem?_append_right (by omega), Nat.add_sub_cancel_left, List.getElem?_append_left (List.getElem?_eq_some_iff.mp hk).1]; exact hk, (List.getElem?_eq_some_iff.mp hk).1⟩
  have gY : ∀ (k : Nat) (q : Nat × va_E), Y[k]? = some q → (X ++ (w2 ++ Y))[X.length + (w2.length + k)]? = some q ∧ k < Y.length := fun k q hk => ⟨by rw [List.getElem?_append_right (by omega), Nat.add_sub_cancel_left, List.getElem?_append_right (by omega), Nat.add_sub_cancel_left]; exact hk, (List.getElem?_eq_some_iff.mp hk).1⟩
  refine ⟨⟨fun a b p q ha hb e => ?_, fun k q hk => h.2 _ q (gX k q hk).1⟩, ⟨fun a b p q ha hb e => ?_, fun k q hk => h.2 _ q (gw k q hk).1⟩, ⟨fun a b p q ha hb e => ?_, fun k q hk => h.2 _ q (gY k q hk).1⟩, fun a b p q ha hb e => ?_, fun a b p q ha hb e => ?_, fun a b p q ha hb e => ?_⟩
  · exact h.1 _ _ p q (gX a p ha).1 (gX b q hb).1 e
  · have := h.1 _ _ p q (gw a p ha).1 (gw b q hb).1 e; omega
  · have := h.1 _ _ p q (gY a p ha).1 (gY b q hb).1 e; omega
  · have := h.1 _ _ p q (gX a p ha).1 (gw b q hb).1 e; have := (gX a p ha).2; omega
  · have := h.1 _ _ p q (gw a p ha).1 (gY b q hb).1 e; have := (gw a p ha).2; omega
  · have := h.1 _ _ p q (gX a p ha).1 (gY b q hb).1 e; have := (gX a p ha).2; omega
/-- what comes back from a callee, put beside the rest -/
theorem k_back {D : va_G} {A : Nat → Prop} {X w2 Y w2' : va_W} {H H1 : Heap} {s : State} {locs : List Loc} (hP : va_P D kCl (X ++ (w2 ++ Y)) H) (hD : va_D A (X ++ (w2 ++ Y))) (hS : va_S A s.heap H locs) (hA : ∀ q, s.heap.size ≤ q → A q)
    (hk : ∀ q : Nat, q < H.size → ¬ va_A w2 H.size q → H1[q]? = H[q]?) (hP2 : va_P D kCl w2' H1) (hD2 : va_D (va_A w2 H.size) w2') : va_P D kCl (X ++ (w2' ++ Y)) H1 ∧ va_D A (X ++ (w2' ++ Y)) := by
  obtain ⟨pX, pw, pY⟩ := kP_mid hP
  obtain ⟨dX, dw, dY, x1, x2, x3⟩ := kD_mid hD
  have ltX : ∀ (k : Nat) (q : Nat × va_E), X[k]? = some q → q.1 < H.size := fun k q hq => (pX k q hq).lt
  have ltY : ∀ (k : Nat) (q : Nat × va_E), Y[k]? = some q → q.1 < H.size := fun k q hq => (pY k q hq).lt
  have nX : ∀ (k : Nat) (q : Nat × va_E), X[k]? = some q → ¬ va_A w2 H.size q.1 := by
    intro k q hq h
    rcases h with ⟨b, e, hb⟩ | h
    · exact x1 k b q _ hq hb rfl
    · exact absurd (ltX k q hq) (by omega)
  have nY : ∀ (k : Nat) (q : Nat × va_E), Y[k]? = some q → ¬ va_A w2 H.size q.1 := by
    intro k q hq h
    rcases h with ⟨b, e, hb⟩ | h
    · exact x2 b k _ q hb hq rfl
    · exact absurd (ltY k q hq) (by omega)
  have hAA : ∀ q, va_A w2 H.size q → A q := by
    intro q h
    rcases h with ⟨b, e, hb⟩ | h
    · exact dw.2 b _ hb
    · exact hA q (Nat.le_trans hS.1 h)
  refine ⟨(pX.kept fun k q hq => hk q.1 (ltX k q hq) (nX k q hq)).app (hP2.app (pY.kept fun k q hq => hk q.1 (ltY k q hq) (nY k q hq))), dX.app ((hD2.weaken fun k q _ h => hAA _ h).app dY ?_) ?_⟩
  · intro a b p q ha hb e
    exact nY b q hb (e ▸ hD2.2 a p ha)
  · intro a b p q ha hb e
    rcases List.mem_append.mp (List.mem_of_getElem? hb) with h | h
    · obtain ⟨j, hj⟩ := List.getElem?_of_mem h
      exact nX a p ha (e ▸ hD2.2 j q hj)
    · obtain ⟨j, hj⟩ := List.getElem?_of_mem h
      exact x3 a j p q ha hj e
theorem k_free {A : Nat → Prop} {X w2 Y : va_W} {H : Heap} {s : State} {locs : List Loc} (hD : va_D A (X ++ (w2 ++ Y))) (hS : va_S A s.heap H locs) (hA : ∀ q, s.heap.size ≤ q → A q) : ∀ q, va_A w2 H.size q → A q := by
  intro q h
  rcases h with ⟨b, e, hb⟩ | h
  · exact (kD_mid hD).2.1.2 b _ hb
  · exact hA q (Nat.le_trans hS.1 h)
end KC
