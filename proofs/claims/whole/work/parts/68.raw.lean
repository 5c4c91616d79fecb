/-! what constructors need, over plain worlds -/
theorem va_RA_u {U : State} {c1 c2 : ClassId} {ty : FieldType} (h1 : va_RA U c1 ty) (h2 : va_RA U c2 ty) : c1 = c2 := by
  cases ty with
  | object C =>
    obtain ⟨_, _, _, _, _, e1⟩ := h1
    obtain ⟨_, _, _, _, _, e2⟩ := h2
    exact Option.some.inj (e1.symm.trans e2)
  | _ =>
    have e1 : U.vm.findClass _ = some c1 := h1
    have e2 : U.vm.findClass _ = some c2 := h2
    exact Option.some.inj (e1.symm.trans e2)
theorem arr_congr (c : ClassId) (n : Nat) {f g : Nat → Option Nat} (h : ∀ k, k < n → f k = g k) : vp_cell c (n, .inr (.inr (.inr (.inr f)))) = vp_cell c (n, .inr (.inr (.inr (.inr g)))) := by
  rw [vp_cell_q, vp_cell_q]
  unfold arrV
  rw [show (fun j : Fin n => va_rf (f j.val)) = (fun j : Fin n => va_rf (g j.val)) from funext fun j => by rw [h j.1 j.2]]
theorem wd_mem {D : va_G} {w w' : va_W} {H : Heap} (h : ∀ q, q ∈ w' → q ∈ w) (hP : va_P D kCl w H) : va_P D kCl w' H := fun k q hk => by
  obtain ⟨k', hk'⟩ := List.getElem?_of_mem (h q (List.mem_of_getElem? hk))
  exact hP k' q hk'
theorem wd_nodup {w : va_W} : (∀ (i j : Nat) (p q : Nat × va_E), w[i]? = some p → w[j]? = some q → p.1 = q.1 → i = j) ↔ (w.map Prod.fst).Nodup := by
  constructor
  · intro h
    refine List.pairwise_iff_getElem.mpr fun i j hi hj hij e => ?_
    rw [List.getElem_map, List.getElem_map] at e
    have := h i j _ _ (List.getElem?_eq_getElem (by simpa using hi)) (List.getElem?_eq_getElem (by simpa using hj)) e
    omega
  · intro h i j p q hi hj e
    have hp := List.pairwise_iff_getElem.mp h
    have li := (List.getElem?_eq_some_iff.mp hi).1
    have lj := (List.getElem?_eq_some_iff.mp hj).1
    have ei := (List.getElem?_eq_some_iff.mp hi).2
    have ej := (List.getElem?_eq_some_iff.mp hj).2
    rcases Nat.lt_trichotomy i j with h1 | h1 | h1
    · refine absurd ?_ (hp i j (by simpa using li) (by simpa using lj) h1)
      rw [List.getElem_map, List.getElem_map, ei, ej]
      exact e
    · exact h1
    · refine absurd ?_ (hp j i (by simpa using lj) (by simpa using li) h1)
      rw [List.getElem_map, List.getElem_map, ei, ej]
      exact e.symm
theorem wd_perm {A : Nat → Prop} {w w' : va_W} (h : w.Perm w') (hD : va_D A w) : va_D A w' := by
  refine ⟨wd_nodup.mpr ((h.map Prod.fst).nodup_iff.mp (wd_nodup.mp hD.1)), fun k q hk => ?_⟩
  obtain ⟨k', hk'⟩ := List.getElem?_of_mem (h.mem_iff.mpr (List.mem_of_getElem? hk))
  exact hD.2 k' q hk'
section JR
variable {own nm : String} {cc : ByteArray} {nL : Nat} {ret : Option FieldType} {d mc ms : Nat} {cy : Nat → ClassId} {Q : kQT} {QX : kXT} {pc : Nat} {lv lv' : List (Nat × Value)} {st rest : List Value} {w : va_W} {cells slots : Nat} {a q0 n : Nat} {cA : ClassId}
theorem J_wk {w' : va_W} (hP9 : ∀ D H, va_P D kCl w H → va_P D kCl w' H) (hD9 : ∀ A, va_D A w → va_D A w') (kk : J own nm cc nL ret d mc ms cy Q QX pc lv st w' cells slots) : J own nm cc nL ret d mc ms cy Q QX pc lv st w cells slots := by
  intro p l e s m args below meth c D A C0 H locs ls hP hD hS hll
  exact kk p l e s m args below meth c D A C0 H locs ls (hP9 D H hP) (hD9 A hD) hS hll
theorem J_perm {w' : va_W} (h : w.Perm w') (kk : J own nm cc nL ret d mc ms cy Q QX pc lv st w' cells slots) : J own nm cc nL ret d mc ms cy Q QX pc lv st w cells slots :=
  J_wk (fun _ _ => wd_mem (fun _ hq => h.mem_iff.mpr hq)) (fun _ => wd_perm h) kk
/-- an array of references: only what is below its length counts -/
theorem J_arr {f g : Nat → Option Nat} (hq : w[q0]? = some (a, .inl (cA, n, .inr (.inr (.inr (.inr f)))))) (h : ∀ k, k < n → f k = g k) (kk : J own nm cc nL ret d mc ms cy Q QX pc lv st (w.set q0 (a, .inl (cA, n, .inr (.inr (.inr (.inr g)))))) cells slots) : J own nm cc nL ret d mc ms cy Q QX pc lv st w cells slots := by
  refine J_wk (fun D H hP => ?_) (fun A hD => hD.set hq) kk
  intro k q hk
  by_cases e : q0 = k
  · subst e
    rw [List.getElem?_set_self (List.getElem?_eq_some_iff.mp hq).1] at hk
    cases hk
    have h1 := hP q0 _ hq
    show H[a]? = some (vp_cell _ _)
    rw [← arr_congr cA n h]
    exact h1
  · rw [List.getElem?_set_ne e] at hk
    exact hP k q hk
theorem J_getR {f N ci index : Nat} {C : String} {T : u_T} {fs : List Value} {v : Value} (q0 : Nat) (hq : w[q0]? = some (a, .inr (ci, fs))) (hc : kCl[ci]? = some (C, T, N)) (hin : ∀ w ∈ u_ws C T N, w ∈ kT) (hf : f < N) (hlink : Cond.fieldLink own index (T f).1 (T f).2.1 (T f).2.2.1 ∈ kT) (hv : fs[f]? = some v)
    (hd : decode cc pc = .ok (.getfield index, 3)) (kk : J own nm cc nL ret d mc ms cy Q QX (pc + 3) lv (v :: rest) w cells slots) : J own nm cc nL ret d mc ms cy Q QX pc lv (.ref a :: rest) w cells slots := by
  intro p l e s m args below meth c D A C0 H locs ls hP hD hS hll
  exact va_get (D := D) (ci := ci) (v := v) (C := C) (T := T) (N := N) C0.1 C0.2.1 C0.hts hin C0.2.2.2.2.2.2.2.1 C0.2.2.2.2.2.2.2.2.2.1.1 hP q0 hq hc f hf (C0.hts _ hlink) (fun _ h9 => h9) hv hd (kk p l e s m args below meth c D A C0 H locs ls hP hD hS hll)
theorem J_putR {f N ci index : Nat} {C : String} {T : u_T} {fs : List Value} {v : Value} {ty : FieldType} (q0 : Nat) (hq : w[q0]? = some (a, .inr (ci, fs))) (hc : kCl[ci]? = some (C, T, N)) (hin : ∀ w ∈ u_ws C T N, w ∈ kT) (ty0 : Nat → FieldType) (hty : ∀ k, k < N → parseFieldDescriptor (T k).2.2.1 = some (ty0 k)) (hnm : ∀ a, a < N → ∀ b, b < N → a ≠ b → (T a).2.1 ≠ (T b).2.1)
    (hf : f < N) (hlink : Cond.fieldLink own index (T f).1 (T f).2.1 (T f).2.2.1 ∈ kT) (hfin : (T f).2.2.2 = true) (hini : nm = "<init>") (hdecl : (T f).1 = own) (hdt : parseFieldDescriptor (T f).2.2.1 = some ty) (hn : narrow ty v = v) (hfit : fits ty v = true) (hl : f < fs.length)
    (hd : decode cc pc = .ok (.putfield index, 3)) (kk : J own nm cc nL ret d mc ms cy Q QX (pc + 3) lv rest (w.set q0 (a, .inr (ci, fs.set f v))) cells slots) : J own nm cc nL ret d mc ms cy Q QX pc lv (v :: .ref a :: rest) w cells slots := by
  intro p l e s m args below meth c D A C0 H locs ls hP hD hS hll
  exact va_putF (D := D) (ci := ci) (v := v) (ty := ty) (C := C) (T := T) (N := N) C0.1 C0.2.1 C0.hts hin ty0 hty hnm C0.2.2.2.2.2.2.2.1 C0.2.2.2.2.2.2.2.2.2.1.1 hP hD hS q0 hq hc f hf (C0.hts _ hlink) (fun _ h9 => h9) hfin (C0.2.2.2.2.2.2.1.trans hini) hdecl hdt hn hfit hl hd (fun H1 locs1 hP1 hD1 hS1 => kk p l e s m args below meth c D A C0 H1 locs1 ls hP1 hD1 hS1 hll)
theorem J_alenR {x : vp_A} {ty : FieldType} {v : Int32} (q0 t0 : Nat) (hq : w[q0]? = some (a, .inl (cA, x))) (ht : (kTys cy)[t0]? = some (cA, ty)) (hv : Int32.ofNat x.1 = v) (hd : decode cc pc = .ok (.arraylength, 1))
    (kk : J own nm cc nL ret d mc ms cy Q QX (pc + 1) lv (.int v :: rest) w cells slots) : J own nm cc nL ret d mc ms cy Q QX pc lv (.ref a :: rest) w cells slots := by
  intro p l e s m args below meth c D A C0 H locs ls hP hD hS hll
  exact va_alen C0.1 C0.2.1 C0.2.2.2.2.2.2.2.2.2.1.1 hP q0 t0 hq ht hv hd (kk p l e s m args below meth c D A C0 H locs ls hP hD hS hll)
theorem J_aastR2 {C : String} {T : u_T} {N ci v : Nat} {f : Nat → Option Nat} {vs : List Value} {x : Int32} (q0 qk t0 j : Nat) (hq : w[q0]? = some (a, .inl (cA, n, .inr (.inr (.inr (.inr f)))))) (ht : (kTys cy)[t0]? = some (cA, .object C)) (hv : w[qk]? = some (v, .inr (ci, vs))) (hc : kCl[ci]? = some (C, T, N)) (hin : vp_in x n) (hj : x.toNatClampNeg = j) (hd : decode cc pc = .ok (.aastore, 1))
    (kk : J own nm cc nL ret d mc ms cy Q QX (pc + 1) lv rest (w.set q0 (a, .inl (cA, n, .inr (.inr (.inr (.inr (va_up f j (some v)))))))) cells slots) : J own nm cc nL ret d mc ms cy Q QX pc lv (.ref v :: .int x :: .ref a :: rest) w cells slots := by
  subst hj
  intro p l e s m args below meth c D A C0 H locs ls hP hD hS hll
  exact va_astq (r := (C, T, N)) C0.1 C0.2.1 C0.2.2.2.2.2.2.2.2.2.1.1 hP hD hS q0 t0 qk ci hq ht hv hc hin hd (fun H1 locs1 hP1 hD1 hS1 => kk p l e s m args below meth c D A C0 H1 locs1 ls hP1 hD1 hS1 hll)
theorem J_newaR {atype : ArrayType} {ty : FieldType} {c0 : ClassId} {x : Int32} {N' : Nat} {a0 : vp_A} (t0 : Nat) (ht : (kTys cy)[t0]? = some (c0, ty)) (harr : Cond.arrayClass (newarray.typeOf atype) ∈ kT) (hty : newarray.typeOf atype = ty) (ha : ∀ cA : ClassId, vp_cell cA a0 = arrV cA N' (fun _ => defaultValue ty)) (hn : ¬ x < 0) (hN : x.toNatClampNeg = N') (hb : N' * componentBytes ty ≤ 536870912) (hc : cells + 1 ≤ mc) (hs : slots + N' ≤ ms) (hd : decode cc pc = .ok (.newarray atype, 2))
    (kk : ∀ q : Nat, J own nm cc nL ret d mc ms cy Q QX (pc + 2) lv (.ref q :: rest) (w ++ [(q, .inl (c0, a0))]) (cells + 1) (slots + N')) : J own nm cc nL ret d mc ms cy Q QX pc lv (.int x :: rest) w cells slots := by
  intro p l e s m args below meth c D A C0 H locs ls hP hD hS hll
  refine va_newa C0.1 C0.2.1 (C0.hts _ harr) hty C0.2.2.2.2.2.2.2.2.2.1.1 hP hD hS C0.2.2.2.2.2.2.2.2.2.2.1 ha hn hN hb hc hs hd (fun q cA H1 hK1 hP1 hD1 hS1 => ?_)
  have e : cA = c0 := va_RA_u (hK1.2 9 (cA, ty) rfl).2 (C0.2.2.2.2.2.2.2.2.2.1.1.2 t0 _ ht).2
  subst e
  exact kk q p l e s m args below meth c D A C0 H1 locs ls hP1 hD1 hS1 hll
theorem J_newqR {C : String} {index : Nat} {c0 : ClassId} {x : Int32} {N' : Nat} (t0 : Nat) (ht : (kTys cy)[t0]? = some (c0, .object C)) (hlink : Cond.classLink own index C ∈ kT) (hC : C ∈ ["FoghornExchange$RadioCall", "FoghornExchange$Station", "FoghornExchange$Entry"]) (hn : ¬ x < 0) (hN : x.toNatClampNeg = N') (hb : N' * 4 ≤ 536870912) (hc : cells + 1 ≤ mc) (hs : slots + N' ≤ ms) (hd : decode cc pc = .ok (.anewarray index, 3))
    (kk : ∀ q : Nat, J own nm cc nL ret d mc ms cy Q QX (pc + 3) lv (.ref q :: rest) (w ++ [(q, .inl (c0, N', .inr (.inr (.inr (.inr (fun _ => none))))))]) (cells + 1) (slots + N')) : J own nm cc nL ret d mc ms cy Q QX pc lv (.int x :: rest) w cells slots := by
  intro p l e s m args below meth c D A C0 H locs ls hP hD hS hll
  refine va_newq C0.1 C0.2.1 C0.2.2.2.2.2.2.2.1 (C0.hts _ hlink) (C0.2.2.2.2.2.2.2.2.2.1.2.2.1.2.2.1 C hC) C0.2.2.2.2.2.2.2.2.2.1.1 hP hD hS C0.2.2.2.2.2.2.2.2.2.2.1 hn hN hb hc hs hd (fun q cA H1 hK1 hP1 hD1 hS1 => ?_)
  have e : cA = c0 := va_RA_u (hK1.2 9 (cA, .object C) rfl).2 (C0.2.2.2.2.2.2.2.2.2.1.1.2 t0 _ ht).2
  subst e
  exact kk q p l e s m args below meth c D A C0 H1 locs ls hP1 hD1 hS1 hll
theorem J_mnaR {index : Nat} {x y : Int32} {N' K' : Nat} (hlink : Cond.classLink own index "[[I" ∈ kT) (harr : Cond.arrayClass .int ∈ kT) (hn : ¬ x < 0) (hk : ¬ y < 0) (hN : x.toNatClampNeg = N') (hK : y.toNatClampNeg = K') (hb1 : N' * 4 ≤ 536870912) (hb2 : K' * 4 ≤ 536870912) (hb3 : K' ≤ 536870912) (hc : cells + (1 + N') ≤ mc) (hs : slots + (N' + N' * K') ≤ ms) (hd : decode cc pc = .ok (.multianewarray index 2, 4))
    (kk : ∀ h0 : Nat, J own nm cc nL ret d mc ms cy Q QX (pc + 4) lv (.ref h0 :: rest) ((w ++ [(h0, .inl (cy 8, N', .inr (.inr (.inr (.inr (fun i => if i < N' then some (h0 + 1 + i) else none))))))]) ++ ((List.range N').map (fun i => h0 + 1 + i)).map (fun a => (a, .inl (cy 0, K', .inl (fun _ => 0))))) (cells + 1 + N') (slots + N' + N' * K')) : J own nm cc nL ret d mc ms cy Q QX pc lv (.int y :: .int x :: rest) w cells slots := by
  intro p l e s m args below meth c D A C0 H locs ls hP hD hS hll
  have hK9 := C0.2.2.2.2.2.2.2.2.2.1
  have h8 : s.vm.findClass "[[I" = some (cy 8) := (hK9.1.2 8 _ rfl).2
  have h0 : s.vm.findClass "[I" = some (cy 0) := (hK9.1.2 0 _ rfl).2
  refine va_mnaW (ty := .int) (cy := cy 0) C0.1 C0.2.1 C0.2.2.2.2.2.2.2.1 (C0.hts _ hlink) hK9.2.2.1.2.2.2.1 (C0.hts _ harr) h0 hP hD hS C0.2.2.2.2.2.2.2.2.2.2.1 (z := (K', .inl (fun _ => 0))) hn hk hN hK hb1 hb2 hb3 rfl rfl hc hs (fun c9 => ?_) hd (fun h9 cA H1 fA hP1 hD1 hS1 => ?_)
  · rw [vp_cell_i]
    exact arrV_new c9 K' (.int 0)
  · have e : cA = cy 8 := Option.some.inj (fA.symm.trans h8)
    subst e
    exact kk h9 p l e s m args below meth c D A C0 H1 locs ls hP1 hD1 hS1 hll
variable {y2 : MethodName} {cc2 : ByteArray} {nL2 : Nat} {d2 mc2 ms2 : Nat} {Q2 : kQT} {As : List Value} {w2 : va_W} {index : Nat} {b : Nat}
/-- a nest mate's constructor -/
theorem J_callIN (X Y : va_W) (hd : decode cc pc = .ok (.invokespecial index, 3)) (hcon : Con y2 cc2 nL2 none d2 mc2 ms2 cy (.ref b :: As) w2 Q2 (fun _ _ => False)) (hw : w = X ++ (w2 ++ Y)) (hlink : (own, index, y2) ∈ kNestM) (hcode : Cond.code y2 cc2 nL2 none ∈ kT) (hini : Cond.initialized y2.cls ∈ kT) (hinst : Cond.instanceMethod y2 ∈ kT) (hy1 : y2.name = "<init>")
    (hy : y2.cls ≠ "java/lang/invoke/MethodHandle" ∧ y2.cls ≠ "java/lang/invoke/VarHandle" ∧ (parseMethodDescriptor y2.desc).map (fun d => d.parameters.length) = some As.length) (hroom : d2 + 1 ≤ d ∧ 8 + (nL2 + 11) + (40 * d2 + 100) ≤ 40 * d + 100) (hc : cells + mc2 ≤ mc) (hs : slots + ms2 ≤ ms) (hst : (rest.map fun v => v.category).sum ≤ 8)
    (kk : ∀ (r : Option Value) (w2' : va_W), Q2 r w2' → J own nm cc nL ret d mc ms cy Q QX (pc + 3) lv (r.toList ++ rest) (X ++ (w2' ++ Y)) (cells + mc2) (slots + ms2)) : J own nm cc nL ret d mc ms cy Q QX pc lv (As.reverse ++ .ref b :: rest) w cells slots := by
  subst hw
  intro p l e s m args below meth c D A C0 H locs ls hP hD hS hll
  have hts := C0.hts
  have hK := C0.2.2.2.2.2.2.2.2.2.1
  have hA := C0.2.2.2.2.2.2.2.2.2.2.1
  have hM := Con.met hcon l C0.2.2.2.2.2.2.2.2.2.2.2 D H.size
  have hpre := k_pre (av := .ref b :: As) hP hD hS hA hK
  have hG : GoodIn kT (Cond.code y2 cc2 nL2 none :: kT) := by
    intro w hw
    have h1 : w ∈ kT := by
      rcases List.mem_cons.mp hw with rfl | h2
      · exact hcode
      · exact h2
    exact ⟨h1, good_of_word (List.mem_filter.mp h1).2⟩
  have hcn := va_cnB (own := own) (host := "FoghornExchange") (index := index) (y := y2) (rm := kR d2 mc2 ms2) (R := kR d mc ms) (s := s) (args := args) As.length hts hG rfl rfl rfl (hK.2.2.1.1 _ hlink) (hts _ hini) hy hroom
  intro T hT X9
  obtain ⟨v, st₀, t, T', L, h0, X', hL, e1, e2, ⟨⟨r, w2', hr, hq, hP2, hD2⟩, hF⟩, stp⟩ := va_runIN (b := b) (As := As) (g := F0 m pc ls (As.reverse ++ .ref b :: rest)) (rest := rest) ⟨C0.1, C0.2.1, C0.2.2.1, C0.2.2.2.2.2.2.2.1, hts⟩ hM ⟨hcn, hy1, hts _ hinst⟩ hpre rfl rfl (hll.1.trans rfl) rfl (by show 2 * 0 + _ ≤ 8; omega) hd ⟨hc, hs⟩ T hT X9
  cases hr
  obtain ⟨k1, k2, k3⟩ := vx_keep h0 e1 hS (fun q _ h => k_free hD hS hA q h) (k_free hD hS hA) hL hF
  obtain ⟨hP3, hD3⟩ := k_back hP hD hS hA k2 (by rw [e1]; exact hP2) hD2
  obtain ⟨t2, a1, b1⟩ := kk v w2' hq p l e s m args below meth c D A C0 T'.heap (locs ++ L) ls hP3 hD3 k3 hll T' rfl X'
  exact ⟨t2, stp t2 a1, b1⟩
end JR
