/-! arrays -/
section KA
variable {S : Nat → Nat → Nat} {sh : kSh} {I I' : kI} {L L' : kL} {R R' : kRf} {NL : List (Nat × Nat)}
variable {own nm : String} {cc : ByteArray} {nL : Nat} {ret : Option FieldType} {d mc ms : Nat} {cy : Nat → ClassId} {Q : kQT} {QX : kXT} {pc : Nat} {lv lv' : List (Nat × Value)} {st rest : List Value} {w : va_W} {cells slots : Nat}
variable {k i n : Nat} {cA : ClassId}

theorem J_iald {f : Nat → Int32} {x : Int32} (j t0 : Nat) (hm : (k, i) ∈ NL) (he : sh k i (I k i) (L k i) (R k i) = .inl (cA, n, .inl f)) (ht : (kTys cy)[t0]? = some (cA, .int)) (hin : vp_in x n) (hj : x.toNatClampNeg = j) (hd : decode cc pc = .ok (.iaload, 1))
    (kk : J own nm cc nL ret d mc ms cy Q QX (pc + 1) lv (.int (f j) :: rest) (kw S sh I L R NL) cells slots) : J own nm cc nL ret d mc ms cy Q QX pc lv (.int x :: .ref (ka S k i) :: rest) (kw S sh I L R NL) cells slots := by
  intro p l e s m args below meth c D A C0 H locs ls hP hD hS hll
  obtain ⟨q0, hq, -⟩ := kw_get (S := S) (sh := sh) (I := I) (L := L) (R := R) hm
  rw [he] at hq
  subst hj
  exact va_iald C0.1 C0.2.1 C0.2.2.2.2.2.2.2.2.2.1.1 hP q0 t0 hq ht hin hd (kk p l e s m args below meth c D A C0 H locs ls hP hD hS hll)
theorem J_cald {f : Nat → Int32} {x : Int32} (j t0 : Nat) (hm : (k, i) ∈ NL) (he : sh k i (I k i) (L k i) (R k i) = .inl (cA, n, .inl f)) (ht : (kTys cy)[t0]? = some (cA, .char)) (hin : vp_in x n) (hj : x.toNatClampNeg = j) (hd : decode cc pc = .ok (.caload, 1))
    (kk : J own nm cc nL ret d mc ms cy Q QX (pc + 1) lv (.int (f j) :: rest) (kw S sh I L R NL) cells slots) : J own nm cc nL ret d mc ms cy Q QX pc lv (.int x :: .ref (ka S k i) :: rest) (kw S sh I L R NL) cells slots := by
  intro p l e s m args below meth c D A C0 H locs ls hP hD hS hll
  obtain ⟨q0, hq, -⟩ := kw_get (S := S) (sh := sh) (I := I) (L := L) (R := R) hm
  rw [he] at hq
  subst hj
  exact va_cald C0.1 C0.2.1 C0.2.2.2.2.2.2.2.2.2.1.1 hP q0 t0 hq ht hin hd (kk p l e s m args below meth c D A C0 H locs ls hP hD hS hll)
theorem J_zald {f : Nat → Int32} {x : Int32} (j t0 : Nat) (hm : (k, i) ∈ NL) (he : sh k i (I k i) (L k i) (R k i) = .inl (cA, n, .inl f)) (ht : (kTys cy)[t0]? = some (cA, .boolean)) (hin : vp_in x n) (hj : x.toNatClampNeg = j) (hd : decode cc pc = .ok (.baload, 1))
    (kk : J own nm cc nL ret d mc ms cy Q QX (pc + 1) lv (.int (f j) :: rest) (kw S sh I L R NL) cells slots) : J own nm cc nL ret d mc ms cy Q QX pc lv (.int x :: .ref (ka S k i) :: rest) (kw S sh I L R NL) cells slots := by
  intro p l e s m args below meth c D A C0 H locs ls hP hD hS hll
  obtain ⟨q0, hq, -⟩ := kw_get (S := S) (sh := sh) (I := I) (L := L) (R := R) hm
  rw [he] at hq
  subst hj
  exact va_zald C0.1 C0.2.1 C0.2.2.2.2.2.2.2.2.2.1.1 hP q0 t0 hq ht hin hd (kk p l e s m args below meth c D A C0 H locs ls hP hD hS hll)
theorem J_lald {f : Nat → Int64} {x : Int32} (j t0 : Nat) (hm : (k, i) ∈ NL) (he : sh k i (I k i) (L k i) (R k i) = .inl (cA, n, .inr (.inl f))) (ht : (kTys cy)[t0]? = some (cA, .long)) (hin : vp_in x n) (hj : x.toNatClampNeg = j) (hd : decode cc pc = .ok (.laload, 1))
    (kk : J own nm cc nL ret d mc ms cy Q QX (pc + 1) lv (.long (f j) :: rest) (kw S sh I L R NL) cells slots) : J own nm cc nL ret d mc ms cy Q QX pc lv (.int x :: .ref (ka S k i) :: rest) (kw S sh I L R NL) cells slots := by
  intro p l e s m args below meth c D A C0 H locs ls hP hD hS hll
  obtain ⟨q0, hq, -⟩ := kw_get (S := S) (sh := sh) (I := I) (L := L) (R := R) hm
  rw [he] at hq
  subst hj
  exact va_lald C0.1 C0.2.1 C0.2.2.2.2.2.2.2.2.2.1.1 hP q0 t0 hq ht hin hd (kk p l e s m args below meth c D A C0 H locs ls hP hD hS hll)
theorem J_dald {f : Nat → UInt64} {x : Int32} (j t0 : Nat) (hm : (k, i) ∈ NL) (he : sh k i (I k i) (L k i) (R k i) = .inl (cA, n, .inr (.inr (.inr (.inl f))))) (ht : (kTys cy)[t0]? = some (cA, .double)) (hin : vp_in x n) (hj : x.toNatClampNeg = j) (hd : decode cc pc = .ok (.daload, 1))
    (kk : J own nm cc nL ret d mc ms cy Q QX (pc + 1) lv (.double (f j) :: rest) (kw S sh I L R NL) cells slots) : J own nm cc nL ret d mc ms cy Q QX pc lv (.int x :: .ref (ka S k i) :: rest) (kw S sh I L R NL) cells slots := by
  intro p l e s m args below meth c D A C0 H locs ls hP hD hS hll
  obtain ⟨q0, hq, -⟩ := kw_get (S := S) (sh := sh) (I := I) (L := L) (R := R) hm
  rw [he] at hq
  subst hj
  exact va_dald C0.1 C0.2.1 C0.2.2.2.2.2.2.2.2.2.1.1 hP q0 t0 hq ht hin hd (kk p l e s m args below meth c D A C0 H locs ls hP hD hS hll)
theorem J_aald {C : String} {f : Nat → Option Nat} {x : Int32} (j t0 : Nat) (hm : (k, i) ∈ NL) (he : sh k i (I k i) (L k i) (R k i) = .inl (cA, n, .inr (.inr (.inr (.inr f))))) (ht : (kTys cy)[t0]? = some (cA, .object C)) (hin : vp_in x n) (hj : x.toNatClampNeg = j) (hd : decode cc pc = .ok (.aaload, 1))
    (kk : J own nm cc nL ret d mc ms cy Q QX (pc + 1) lv (va_rf (f j) :: rest) (kw S sh I L R NL) cells slots) : J own nm cc nL ret d mc ms cy Q QX pc lv (.int x :: .ref (ka S k i) :: rest) (kw S sh I L R NL) cells slots := by
  intro p l e s m args below meth c D A C0 H locs ls hP hD hS hll
  obtain ⟨q0, hq, -⟩ := kw_get (S := S) (sh := sh) (I := I) (L := L) (R := R) hm
  rw [he] at hq
  subst hj
  exact va_aldq C0.1 C0.2.1 C0.2.2.2.2.2.2.2.2.2.1.1 hP q0 t0 hq ht hin hd (kk p l e s m args below meth c D A C0 H locs ls hP hD hS hll)
theorem J_iast {f : Nat → Int32} {x : Int32} {v : Int32} (j t0 : Nat) (hm : (k, i) ∈ NL) (he : sh k i (I k i) (L k i) (R k i) = .inl (cA, n, .inl (f))) (ht : (kTys cy)[t0]? = some (cA, .int)) (hin : vp_in x n) (hj : x.toNatClampNeg = j)
    (he' : .inl (cA, n, .inl (upd f j v)) = sh k i (I' k i) (L' k i) (R' k i)) (ho : ∀ k' i', (k', i') ≠ (k, i) → I' k' i' = I k' i' ∧ L' k' i' = L k' i' ∧ R' k' i' = R k' i') (hd : decode cc pc = .ok (.iastore, 1))
    (kk : J own nm cc nL ret d mc ms cy Q QX (pc + 1) lv rest (kw S sh I' L' R' NL) cells slots) : J own nm cc nL ret d mc ms cy Q QX pc lv (.int v :: .int x :: .ref (ka S k i) :: rest) (kw S sh I L R NL) cells slots := by
  intro p l e s m args below meth c D A C0 H locs ls hP hD hS hll
  obtain ⟨q0, hq, hq2⟩ := kw_get (S := S) (sh := sh) (I := I) (L := L) (R := R) hm
  rw [he] at hq
  subst hj
  refine va_iast C0.1 C0.2.1 C0.2.2.2.2.2.2.2.2.2.1.1 hP hD hS q0 t0 hq ht hin hd (fun H1 locs1 hP1 hD1 hS1 => ?_)
  rw [kw_set (I' := I') (L' := L') (R' := R') hD hq2 he' ho] at hP1 hD1
  exact kk p l e s m args below meth c D A C0 H1 locs1 ls hP1 hD1 hS1 hll
theorem J_cast {f : Nat → Int32} {x : Int32} {v : Int32} (j t0 : Nat) (hm : (k, i) ∈ NL) (he : sh k i (I k i) (L k i) (R k i) = .inl (cA, n, .inl (f))) (ht : (kTys cy)[t0]? = some (cA, .char)) (hin : vp_in x n) (hj : x.toNatClampNeg = j)
    (he' : .inl (cA, n, .inl (upd f j (vp_nar .char v))) = sh k i (I' k i) (L' k i) (R' k i)) (ho : ∀ k' i', (k', i') ≠ (k, i) → I' k' i' = I k' i' ∧ L' k' i' = L k' i' ∧ R' k' i' = R k' i') (hd : decode cc pc = .ok (.castore, 1))
    (kk : J own nm cc nL ret d mc ms cy Q QX (pc + 1) lv rest (kw S sh I' L' R' NL) cells slots) : J own nm cc nL ret d mc ms cy Q QX pc lv (.int v :: .int x :: .ref (ka S k i) :: rest) (kw S sh I L R NL) cells slots := by
  intro p l e s m args below meth c D A C0 H locs ls hP hD hS hll
  obtain ⟨q0, hq, hq2⟩ := kw_get (S := S) (sh := sh) (I := I) (L := L) (R := R) hm
  rw [he] at hq
  subst hj
  refine va_cast C0.1 C0.2.1 C0.2.2.2.2.2.2.2.2.2.1.1 hP hD hS q0 t0 hq ht hin hd (fun H1 locs1 hP1 hD1 hS1 => ?_)
  rw [kw_set (I' := I') (L' := L') (R' := R') hD hq2 he' ho] at hP1 hD1
  exact kk p l e s m args below meth c D A C0 H1 locs1 ls hP1 hD1 hS1 hll
theorem J_zast {f : Nat → Int32} {x : Int32} {v : Int32} (j t0 : Nat) (hm : (k, i) ∈ NL) (he : sh k i (I k i) (L k i) (R k i) = .inl (cA, n, .inl (f))) (ht : (kTys cy)[t0]? = some (cA, .boolean)) (hin : vp_in x n) (hj : x.toNatClampNeg = j)
    (he' : .inl (cA, n, .inl (upd f j (vp_nar .boolean v))) = sh k i (I' k i) (L' k i) (R' k i)) (ho : ∀ k' i', (k', i') ≠ (k, i) → I' k' i' = I k' i' ∧ L' k' i' = L k' i' ∧ R' k' i' = R k' i') (hd : decode cc pc = .ok (.bastore, 1))
    (kk : J own nm cc nL ret d mc ms cy Q QX (pc + 1) lv rest (kw S sh I' L' R' NL) cells slots) : J own nm cc nL ret d mc ms cy Q QX pc lv (.int v :: .int x :: .ref (ka S k i) :: rest) (kw S sh I L R NL) cells slots := by
  intro p l e s m args below meth c D A C0 H locs ls hP hD hS hll
  obtain ⟨q0, hq, hq2⟩ := kw_get (S := S) (sh := sh) (I := I) (L := L) (R := R) hm
  rw [he] at hq
  subst hj
  refine va_zast C0.1 C0.2.1 C0.2.2.2.2.2.2.2.2.2.1.1 hP hD hS q0 t0 hq ht hin hd (fun H1 locs1 hP1 hD1 hS1 => ?_)
  rw [kw_set (I' := I') (L' := L') (R' := R') hD hq2 he' ho] at hP1 hD1
  exact kk p l e s m args below meth c D A C0 H1 locs1 ls hP1 hD1 hS1 hll
theorem J_last {f : Nat → Int64} {x : Int32} {v : Int64} (j t0 : Nat) (hm : (k, i) ∈ NL) (he : sh k i (I k i) (L k i) (R k i) = .inl (cA, n, .inr (.inl (f)))) (ht : (kTys cy)[t0]? = some (cA, .long)) (hin : vp_in x n) (hj : x.toNatClampNeg = j)
    (he' : .inl (cA, n, .inr (.inl (vp_updL f j v))) = sh k i (I' k i) (L' k i) (R' k i)) (ho : ∀ k' i', (k', i') ≠ (k, i) → I' k' i' = I k' i' ∧ L' k' i' = L k' i' ∧ R' k' i' = R k' i') (hd : decode cc pc = .ok (.lastore, 1))
    (kk : J own nm cc nL ret d mc ms cy Q QX (pc + 1) lv rest (kw S sh I' L' R' NL) cells slots) : J own nm cc nL ret d mc ms cy Q QX pc lv (.long v :: .int x :: .ref (ka S k i) :: rest) (kw S sh I L R NL) cells slots := by
  intro p l e s m args below meth c D A C0 H locs ls hP hD hS hll
  obtain ⟨q0, hq, hq2⟩ := kw_get (S := S) (sh := sh) (I := I) (L := L) (R := R) hm
  rw [he] at hq
  subst hj
  refine va_last C0.1 C0.2.1 C0.2.2.2.2.2.2.2.2.2.1.1 hP hD hS q0 t0 hq ht hin hd (fun H1 locs1 hP1 hD1 hS1 => ?_)
  rw [kw_set (I' := I') (L' := L') (R' := R') hD hq2 he' ho] at hP1 hD1
  exact kk p l e s m args below meth c D A C0 H1 locs1 ls hP1 hD1 hS1 hll
theorem J_dast {f : Nat → UInt64} {x : Int32} {v : UInt64} (j t0 : Nat) (hm : (k, i) ∈ NL) (he : sh k i (I k i) (L k i) (R k i) = .inl (cA, n, .inr (.inr (.inr (.inl (f)))))) (ht : (kTys cy)[t0]? = some (cA, .double)) (hin : vp_in x n) (hj : x.toNatClampNeg = j)
    (he' : .inl (cA, n, .inr (.inr (.inr (.inl (vf_upd f j v))))) = sh k i (I' k i) (L' k i) (R' k i)) (ho : ∀ k' i', (k', i') ≠ (k, i) → I' k' i' = I k' i' ∧ L' k' i' = L k' i' ∧ R' k' i' = R k' i') (hd : decode cc pc = .ok (.dastore, 1))
    (kk : J own nm cc nL ret d mc ms cy Q QX (pc + 1) lv rest (kw S sh I' L' R' NL) cells slots) : J own nm cc nL ret d mc ms cy Q QX pc lv (.double v :: .int x :: .ref (ka S k i) :: rest) (kw S sh I L R NL) cells slots := by
  intro p l e s m args below meth c D A C0 H locs ls hP hD hS hll
  obtain ⟨q0, hq, hq2⟩ := kw_get (S := S) (sh := sh) (I := I) (L := L) (R := R) hm
  rw [he] at hq
  subst hj
  refine va_dast C0.1 C0.2.1 C0.2.2.2.2.2.2.2.2.2.1.1 hP hD hS q0 t0 hq ht hin hd (fun H1 locs1 hP1 hD1 hS1 => ?_)
  rw [kw_set (I' := I') (L' := L') (R' := R') hD hq2 he' ho] at hP1 hD1
  exact kk p l e s m args below meth c D A C0 H1 locs1 ls hP1 hD1 hS1 hll
theorem J_alen {x : vp_A} {ty : FieldType} {v : Int32} (t0 : Nat) (hm : (k, i) ∈ NL) (he : sh k i (I k i) (L k i) (R k i) = .inl (cA, x)) (ht : (kTys cy)[t0]? = some (cA, ty)) (hv : Int32.ofNat x.1 = v) (hd : decode cc pc = .ok (.arraylength, 1))
    (kk : J own nm cc nL ret d mc ms cy Q QX (pc + 1) lv (.int v :: rest) (kw S sh I L R NL) cells slots) : J own nm cc nL ret d mc ms cy Q QX pc lv (.ref (ka S k i) :: rest) (kw S sh I L R NL) cells slots := by
  intro p l e s m args below meth c D A C0 H locs ls hP hD hS hll
  obtain ⟨q0, hq, -⟩ := kw_get (S := S) (sh := sh) (I := I) (L := L) (R := R) hm
  rw [he] at hq
  exact va_alen C0.1 C0.2.1 C0.2.2.2.2.2.2.2.2.2.1.1 hP q0 t0 hq ht hv hd (kk p l e s m args below meth c D A C0 H locs ls hP hD hS hll)
end KA
