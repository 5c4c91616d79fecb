section KE
variable {own nm : String} {cc : ByteArray} {nL : Nat} {ret : Option FieldType} {d mc ms : Nat} {cy : Nat → ClassId} {Q : kQT} {QX : kXT} {pc : Nat} {lv lv' : List (Nat × Value)} {st rest : List Value} {w : va_W} {cells slots : Nat}
abbrev kNms : List String := ["java/lang/RuntimeException", "java/lang/Exception"]
/-- throw new E("text") -/
theorem J_throw {E text : String} {ik is ic : Nat} (hE : E ∈ kExc) (hstr : (own, is, text) ∈ kStr) (hk : Cond.classLink own ik E ∈ kT) (hini : Cond.initialized E ∈ kT) (hat : ∀ w ∈ vx_atS own ic E kNms, w ∈ kT ∨ w = .castable E E ∨ ∃ y ∈ kDecl, w = .declares y) (hfit : Bundle.fit E = true ∧ ∀ n ∈ kNms, Bundle.fit n = true)
    (hq : QX E w) (hd5 : 6 ≤ d) (hst : (rest.map fun v => v.category).sum ≤ 8) (hc : cells + 1 ≤ mc) (hs : slots + 6 ≤ ms)
    (d0 : decode cc pc = .ok (.new ik, 3)) (d3 : decode cc (pc + 3) = .ok (.dup, 1)) (d4 : decode cc (pc + 4) = .ok (.ldc is, 2)) (d6 : decode cc (pc + 6) = .ok (.invokespecial ic, 3)) (d9 : decode cc (pc + 9) = .ok (.athrow, 1)) :
    J own nm cc nL ret d mc ms cy Q QX pc lv rest w cells slots := by
  intro p l e s m args below meth c D A C0 H locs ls hP hD hS hll
  have hts := C0.hts
  have hK := C0.2.2.2.2.2.2.2.2.2.1
  obtain ⟨sa, hsa⟩ := hK.2.2.2.1 _ hstr
  have hcast := hK.2.1 E hE
  refine vx_throwS (A := A) (own := own) (cls := E) (text := text) (names := kNms) (ik := ik) (is := is) (ic := ic) (sa := sa) (mc := mc) (ms := ms) C0.1 C0.2.1 C0.2.2.2.2.2.2.2.2.2.2.2 C0.2.2.2.2.2.2.2.1 hfit.1 hfit.2 (hts _ hk) (hts _ hini) hsa ?_ ?_ hK.2.2.2.2.1 hK.2.2.2.2.2 hS (hll.1.trans C0.2.2.1.symm) d0 d3 d4 d6 d9 (fun x hx => (C0.2.2.2.2.2.1 x hx).elim) ?_ ?_ hc hs C0.2.2.2.2.1 ?_ hS.2.2 hc hs
  · intro w9 hw9
    rcases hat w9 hw9 with h | rfl | ⟨y9, hy9, rfl⟩
    · exact hts _ h
    · exact va_Nw.use rfl hcast
    · exact va_Nw.use rfl (hK.2.2.1.2.2.2.2 y9 hy9)
  · have gk : ∀ w9 ∈ kT, vx_ot w9 = true := fun w9 h => by simp [vx_ot, (List.mem_filter.mp h).2]
    intro w9 hw9
    rcases List.mem_cons.mp hw9 with rfl | hw9
    · exact gk _ hk
    · rcases List.mem_cons.mp hw9 with rfl | hw9
      · exact gk _ hini
      · rcases hat w9 hw9 with h | rfl | ⟨y9, hy9, rfl⟩
        · exact gk _ h
        · rfl
        · rfl
  · show 2 + 3 < d
    omega
  · show _ + (13 * (2 + 1) + 43) ≤ 40 * d + 100
    omega
  · intro t hal hz ho
    have hlt : ∀ (k : Nat) (q : Nat × va_E), w[k]? = some q → q.1 < H.size := fun k q hq => (hP k q hq).lt
    exact ⟨w, hq, hP.kept (fun k q hk => ho q.1 (hlt k q hk)), hD, ⟨Nat.le_trans hS.1 hz, fun q h1 h2 => (ho q (Nat.lt_of_lt_of_le h1 hS.1)).trans (hS.2.1 q h1 h2)⟩⟩
variable {y2 : MethodName} {cc2 : ByteArray} {nL2 : Nat} {ret2 : Option FieldType} {d2 mc2 ms2 : Nat} {Q2 : kQT} {QX2 : kXT} {As : List Value} {w2 : va_W} {index : Nat} {b : Nat}
/-- a constructor's call -/
theorem J_callI (X Y : va_W) (hd : decode cc pc = .ok (.invokespecial index, 3)) (hcon : Con y2 cc2 nL2 none d2 mc2 ms2 cy (.ref b :: As) w2 Q2 (fun _ _ => False)) (hw : w = X ++ (w2 ++ Y)) (hlink : Cond.methodLink own index y2 ∈ kT) (hcode : Cond.code y2 cc2 nL2 none ∈ kT) (hini : Cond.initialized y2.cls ∈ kT) (hinst : Cond.instanceMethod y2 ∈ kT) (hy1 : y2.name = "<init>")
    (hy : y2.cls ≠ "java/lang/invoke/MethodHandle" ∧ y2.cls ≠ "java/lang/invoke/VarHandle" ∧ (parseMethodDescriptor y2.desc).map (fun d => d.parameters.length) = some As.length) (hroom : d2 + 1 ≤ d ∧ 8 + (nL2 + 11) + (40 * d2 + 100) ≤ 40 * d + 100) (hc : cells + mc2 ≤ mc) (hs : slots + ms2 ≤ ms) (hst : (rest.map fun v => v.category).sum ≤ 8)
    (kk : ∀ (r : Option Value) (w2' : va_W), Q2 r w2' → J own nm cc nL ret d mc ms cy Q QX (pc + 3) lv (r.toList ++ rest) (X ++ (w2' ++ Y)) (cells + mc2) (slots + ms2)) : J own nm cc nL ret d mc ms cy Q QX pc lv (As.reverse ++ .ref b :: rest) w cells slots := by
  subst hw
  intro p l e s m args below meth c D A C0 H locs ls hP hD hS hll
  have hts := C0.hts
  have hK := C0.2.2.2.2.2.2.2.2.2.1
  have hA := C0.2.2.2.2.2.2.2.2.2.2.1
  have hM := Con.met hcon l C0.2.2.2.2.2.2.2.2.2.2.2 D H.size
  have hcb := k_callB (s := s) (args := args) (n := As.length) (d := d) (mc := mc) (ms := ms) (d2 := d2) (mc2 := mc2) (ms2 := ms2) hts hlink hcode hini hy hroom
  have hpre := k_pre (av := .ref b :: As) hP hD hS hA hK
  intro T hT X9
  obtain ⟨v, st₀, t, T', L, h0, X', hL, e1, e2, ⟨⟨r, w2', hr, hq, hP2, hD2⟩, hF⟩, stp⟩ := va_runI (b := b) (As := As) (g := F0 m pc ls (As.reverse ++ .ref b :: rest)) (rest := rest) ⟨C0.1, C0.2.1, C0.2.2.1, C0.2.2.2.2.2.2.2.1, hts⟩ hM ⟨hcb, hy1, hts _ hinst⟩ hpre rfl rfl (hll.1.trans rfl) rfl (by show 2 * 0 + _ ≤ 8; omega) hd ⟨hc, hs⟩ T hT X9
  cases hr
  obtain ⟨k1, k2, k3⟩ := vx_keep h0 e1 hS (fun q _ h => k_free hD hS hA q h) (k_free hD hS hA) hL hF
  obtain ⟨hP3, hD3⟩ := k_back hP hD hS hA k2 (by rw [e1]; exact hP2) hD2
  obtain ⟨t2, a1, b1⟩ := kk v w2' hq p l e s m args below meth c D A C0 T'.heap (locs ++ L) ls hP3 hD3 k3 hll T' rfl X'
  exact ⟨t2, stp t2 a1, b1⟩
/-- the nest mate's static -/
theorem J_callSN (X Y : va_W) (hd : decode cc pc = .ok (.invokestatic index, 3)) (hcon : Con y2 cc2 nL2 ret2 d2 mc2 ms2 cy As w2 Q2 (fun _ _ => False)) (hw : w = X ++ (w2 ++ Y)) (hlink : (own, index, y2) ∈ kNestM) (hcode : Cond.code y2 cc2 nL2 ret2 ∈ kT) (hini : Cond.initialized y2.cls ∈ kT) (hstat : Cond.static y2 ∈ kT)
    (hy : y2.cls ≠ "java/lang/invoke/MethodHandle" ∧ y2.cls ≠ "java/lang/invoke/VarHandle" ∧ (parseMethodDescriptor y2.desc).map (fun d => d.parameters.length) = some As.length) (hroom : d2 + 1 ≤ d ∧ 8 + (nL2 + 11) + (40 * d2 + 100) ≤ 40 * d + 100) (hc : cells + mc2 ≤ mc) (hs : slots + ms2 ≤ ms) (hst : (rest.map fun v => v.category).sum ≤ 8)
    (kk : ∀ (r : Option Value) (w2' : va_W), Q2 r w2' → J own nm cc nL ret d mc ms cy Q QX (pc + 3) lv (r.toList ++ rest) (X ++ (w2' ++ Y)) (cells + mc2) (slots + ms2)) : J own nm cc nL ret d mc ms cy Q QX pc lv (As.reverse ++ rest) w cells slots := by
  subst hw
  intro p l e s m args below meth c D A C0 H locs ls hP hD hS hll
  have hts := C0.hts
  have hK := C0.2.2.2.2.2.2.2.2.2.1
  have hA := C0.2.2.2.2.2.2.2.2.2.2.1
  have hM := Con.met hcon l C0.2.2.2.2.2.2.2.2.2.2.2 D H.size
  have hpre := k_pre (av := As) hP hD hS hA hK
  have hG : GoodIn kT (Cond.code y2 cc2 nL2 ret2 :: kT) := by
    intro w hw
    have h1 : w ∈ kT := by
      rcases List.mem_cons.mp hw with rfl | h2
      · exact hcode
      · exact h2
    exact ⟨h1, good_of_word (List.mem_filter.mp h1).2⟩
  have hcn := va_cnB (own := own) (host := "FoghornExchange") (index := index) (y := y2) (rm := kR d2 mc2 ms2) (R := kR d mc ms) (s := s) (args := args) As.length hts hG rfl rfl rfl (hK.2.2.1.1 _ hlink) (hts _ hini) hy hroom
  intro T hT X9
  obtain ⟨v, st₀, t, T', L, h0, X', hL, e1, e2, ⟨⟨r, w2', hr, hq, hP2, hD2⟩, hF⟩, stp⟩ := va_runSN (As := As) (g := F0 m pc ls (As.reverse ++ rest)) (rest := rest) ⟨C0.1, C0.2.1, C0.2.2.1, C0.2.2.2.2.2.2.2.1, hts⟩ hM ⟨hcn, hts _ hstat, trivial⟩ hpre rfl rfl (hll.1.trans rfl) rfl (by show 2 * 0 + _ ≤ 8; omega) hd ⟨hc, hs⟩ T hT X9
  cases hr
  obtain ⟨k1, k2, k3⟩ := vx_keep h0 e1 hS (fun q _ h => k_free hD hS hA q h) (k_free hD hS hA) hL hF
  obtain ⟨hP3, hD3⟩ := k_back hP hD hS hA k2 (by rw [e1]; exact hP2) hD2
  obtain ⟨t2, a1, b1⟩ := kk v w2' hq p l e s m args below meth c D A C0 T'.heap (locs ++ L) ls hP3 hD3 k3 hll T' rfl X'
  exact ⟨t2, stp t2 a1, b1⟩
end KE
