/-! calls by contract -/
section KD
variable {own nm : String} {cc : ByteArray} {nL : Nat} {ret : Option FieldType} {d mc ms : Nat} {cy : Nat → ClassId} {Q : kQT} {QX : kXT} {pc : Nat} {lv lv' : List (Nat × Value)} {st rest : List Value} {w : va_W} {cells slots : Nat}
variable {y2 : MethodName} {cc2 : ByteArray} {nL2 : Nat} {ret2 : Option FieldType} {d2 mc2 ms2 : Nat} {Q2 : kQT} {QX2 : kXT} {As : List Value} {w2 : va_W} {index : Nat} {b : Nat}
theorem k_pre {D : va_G} {A : Nat → Prop} {X w2 Y : va_W} {H : Heap} {s : State} {locs : List Loc} {av : List Value} (hP : va_P D kCl (X ++ (w2 ++ Y)) H) (hD : va_D A (X ++ (w2 ++ Y))) (hS : va_S A s.heap H locs) (hA : ∀ q, s.heap.size ≤ q → A q) (hK : KX cy D A s s.heap) :
    FrameBlind (va_Pc av (fun U => U.heap.size = H.size ∧ va_P D kCl w2 U.heap ∧ va_D (fun _ => True) w2 ∧ KX cy D (va_A w2 H.size) U U.heap)) ∧
    ∀ U : State, U.heap = H → s.WarmedH U.vm → va_Pc av (fun U => U.heap.size = H.size ∧ va_P D kCl w2 U.heap ∧ va_D (fun _ => True) w2 ∧ KX cy D (va_A w2 H.size) U U.heap) av.toArray U := by
  refine ⟨fun a U g mk q => ?_, fun U hU hW => ⟨rfl, by rw [hU], by rw [hU]; exact (kP_mid hP).2.1, (kD_mid hD).2.1.weaken (fun _ _ _ _ => trivial), by rw [hU]; exact hK.warm hW (fun a h1 h2 => hS.2.1 a h1 h2) (k_free hD hS hA)⟩⟩
  obtain ⟨q0, q1, q2, q3, q4⟩ := q
  exact ⟨q0, q1, q2, q3, KX.same (s := U) (U := U.calling g mk a) rfl q4⟩
/-- the callee's side of a call, by the tables' words -/
theorem k_callB {s : State} {args : Array Value} {n : Nat} (hts : ∀ w ∈ kT, w.before args s = true) (hlink : Cond.methodLink own index y2 ∈ kT) (hcode : Cond.code y2 cc2 nL2 ret2 ∈ kT) (hini : Cond.initialized y2.cls ∈ kT)
    (hy : y2.cls ≠ "java/lang/invoke/MethodHandle" ∧ y2.cls ≠ "java/lang/invoke/VarHandle" ∧ (parseMethodDescriptor y2.desc).map (fun d => d.parameters.length) = some n) (hroom : d2 + 1 ≤ d ∧ 8 + (nL2 + 11) + (40 * d2 + 100) ≤ 40 * d + 100) :
    CallB (kR d mc ms) s args own index y2 cc2 nL2 ret2 (Cond.code y2 cc2 nL2 ret2 :: kT) (kR d2 mc2 ms2) mc2 ms2 n := by
  have hG : GoodIn kT (Cond.code y2 cc2 nL2 ret2 :: kT) := by
    intro w hw
    have h1 : w ∈ kT := by
      rcases List.mem_cons.mp hw with rfl | h2
      · exact hcode
      · exact h2
    exact ⟨h1, good_of_word (List.mem_filter.mp h1).2⟩
  exact callB_of n hts hG rfl rfl rfl (hts _ hini) (hts _ hlink) hy hroom

theorem J_callV (X Y : va_W) (hd : decode cc pc = .ok (.invokevirtual index, 3)) (hcon : Con y2 cc2 nL2 ret2 d2 mc2 ms2 cy (.ref b :: As) w2 Q2 QX2) (hw : w = X ++ (w2 ++ Y)) (hrecv : ∃ (q0 ci : Nat) (r : vw_C) (fs : List Value), w2[q0]? = some (b, .inr (ci, fs)) ∧ kCl[ci]? = some r ∧ r.1 = y2.cls) (hlink : Cond.methodLink own index y2 ∈ kT) (hcode : Cond.code y2 cc2 nL2 ret2 ∈ kT) (hini : Cond.initialized y2.cls ∈ kT) (hinst : Cond.instanceMethod y2 ∈ kT) (hsel : Cond.selects y2.cls y2 y2 ∈ kT)
    (hy : y2.cls ≠ "java/lang/invoke/MethodHandle" ∧ y2.cls ≠ "java/lang/invoke/VarHandle" ∧ (parseMethodDescriptor y2.desc).map (fun d => d.parameters.length) = some As.length) (hroom : d2 + 1 ≤ d ∧ 8 + (nL2 + 11) + (40 * d2 + 100) ≤ 40 * d + 100) (hc : cells + mc2 ≤ mc) (hs : slots + ms2 ≤ ms) (hst : (rest.map fun v => v.category).sum ≤ 8)
    (kk : ∀ (r : Option Value) (w2' : va_W), Q2 r w2' → J own nm cc nL ret d mc ms cy Q QX (pc + 3) lv (r.toList ++ rest) (X ++ (w2' ++ Y)) (cells + mc2) (slots + ms2))
    (kx : ∀ (E : String) (w2' : va_W), QX2 E w2' → QX E (X ++ (w2' ++ Y))) : J own nm cc nL ret d mc ms cy Q QX pc lv (As.reverse ++ .ref b :: rest) w cells slots := by
  subst hw
  intro p l e s m args below meth c D A C0 H locs ls hP hD hS hll
  have hx := C0.1
  have hb := C0.2.1
  have hml := C0.2.2.1
  have hts := C0.hts
  have hown := C0.2.2.2.2.2.2.2.1
  have hK := C0.2.2.2.2.2.2.2.2.2.1
  have hA := C0.2.2.2.2.2.2.2.2.2.2.1
  have hM := hcon l C0.2.2.2.2.2.2.2.2.2.2.2 D H.size
  have hcb := k_callB (s := s) (args := args) (n := As.length) (d := d) (mc := mc) (ms := ms) (d2 := d2) (mc2 := mc2) (ms2 := ms2) hts hlink hcode hini hy hroom
  have hpre := k_pre (av := (.ref b :: As)) hP hD hS hA hK
  intro T hT X9
  rcases vx_runV (b := b) (As := As) (C := y2.cls) (g := F0 m pc ls (As.reverse ++ .ref b :: rest)) (rest := rest) ⟨hx, hb, hml, hown, hts⟩ hM ⟨hcb, hts _ hinst, hts _ hsel⟩ ⟨hpre.1, (by obtain ⟨q0, ci, r, fs, r1, r2, r3⟩ := hrecv; rw [← r3]; exact va_recv hK.1 (kP_mid hP).2.1 (ci := ci) (q0 := q0) r2 r1), hpre.2⟩ rfl rfl (hll.1.trans rfl) rfl (by show 2 * 0 + _ ≤ 8; omega) hd ⟨hc, hs⟩ T hT X9 with
    ⟨v, st₀, t, T', L, h0, X', hL, e1, e2, ⟨⟨r, w2', hr, hq, hP2, hD2⟩, hF⟩, stp⟩ | ⟨q, st₀, t, T', L, E, ce, h0, X', hL, e1, e2, ⟨w2', hq, hP2, hD2, hF⟩, hce, hcv, hcl, stp⟩
  · cases hr
    obtain ⟨k1, k2, k3⟩ := vx_keep h0 e1 hS (fun q _ h => k_free hD hS hA q h) (k_free hD hS hA) hL hF
    obtain ⟨hP3, hD3⟩ := k_back hP hD hS hA k2 (by rw [e1]; exact hP2) hD2
    obtain ⟨t2, a1, b1⟩ := kk v w2' hq p l e s m args below meth c D A C0 T'.heap (locs ++ L) ls hP3 hD3 k3 hll T' rfl X'
    exact ⟨t2, stp t2 a1, b1⟩
  · obtain ⟨k1, k2, k3⟩ := vx_keep h0 e1 hS (fun q _ h => k_free hD hS hA q h) (k_free hD hS hA) hL hF
    obtain ⟨hP3, hD3⟩ := k_back hP hD hS hA k2 (by rw [e1]; exact hP2) hD2
    obtain ⟨t2, a1, b1⟩ := vx_out (Qc := kQ D A Q) (XC := kXQ D A QX) (mc := mc) (ms := ms) (free := A) (H := T'.heap) (pc := pc) (ls := ls) (rest := rest) (E := E) (ce := ce) (q := q) (fun x hx => (C0.2.2.2.2.2.1 x hx).elim) C0.2.2.2.2.1 (by rw [e1]; exact hce) hcv hcl (fun t1 ht1 _ => ⟨_, kx E w2' hq, by rw [ht1]; exact hP3, hD3, k3.F ht1⟩) k3.2.2 hc hs T' rfl X'
    exact ⟨t2, stp.trans a1, b1⟩
theorem J_callS (X Y : va_W) (hd : decode cc pc = .ok (.invokestatic index, 3)) (hcon : Con y2 cc2 nL2 ret2 d2 mc2 ms2 cy As w2 Q2 QX2) (hw : w = X ++ (w2 ++ Y))  (hlink : Cond.methodLink own index y2 ∈ kT) (hcode : Cond.code y2 cc2 nL2 ret2 ∈ kT) (hini : Cond.initialized y2.cls ∈ kT) (hstat : Cond.static y2 ∈ kT)
    (hy : y2.cls ≠ "java/lang/invoke/MethodHandle" ∧ y2.cls ≠ "java/lang/invoke/VarHandle" ∧ (parseMethodDescriptor y2.desc).map (fun d => d.parameters.length) = some As.length) (hroom : d2 + 1 ≤ d ∧ 8 + (nL2 + 11) + (40 * d2 + 100) ≤ 40 * d + 100) (hc : cells + mc2 ≤ mc) (hs : slots + ms2 ≤ ms) (hst : (rest.map fun v => v.category).sum ≤ 8)
    (kk : ∀ (r : Option Value) (w2' : va_W), Q2 r w2' → J own nm cc nL ret d mc ms cy Q QX (pc + 3) lv (r.toList ++ rest) (X ++ (w2' ++ Y)) (cells + mc2) (slots + ms2))
    (kx : ∀ (E : String) (w2' : va_W), QX2 E w2' → QX E (X ++ (w2' ++ Y))) : J own nm cc nL ret d mc ms cy Q QX pc lv (As.reverse ++ rest) w cells slots := by
  subst hw
  intro p l e s m args below meth c D A C0 H locs ls hP hD hS hll
  have hx := C0.1
  have hb := C0.2.1
  have hml := C0.2.2.1
  have hts := C0.hts
  have hown := C0.2.2.2.2.2.2.2.1
  have hK := C0.2.2.2.2.2.2.2.2.2.1
  have hA := C0.2.2.2.2.2.2.2.2.2.2.1
  have hM := hcon l C0.2.2.2.2.2.2.2.2.2.2.2 D H.size
  have hcb := k_callB (s := s) (args := args) (n := As.length) (d := d) (mc := mc) (ms := ms) (d2 := d2) (mc2 := mc2) (ms2 := ms2) hts hlink hcode hini hy hroom
  have hpre := k_pre (av := As) hP hD hS hA hK
  intro T hT X9
  rcases vx_runS (As := As) (g := F0 m pc ls (As.reverse ++ rest)) (rest := rest) ⟨hx, hb, hml, hown, hts⟩ hM ⟨hcb, hts _ hstat⟩ hpre rfl rfl (hll.1.trans rfl) rfl (by show 2 * 0 + _ ≤ 8; omega) hd ⟨hc, hs⟩ T hT X9 with
    ⟨v, st₀, t, T', L, h0, X', hL, e1, e2, ⟨⟨r, w2', hr, hq, hP2, hD2⟩, hF⟩, stp⟩ | ⟨q, st₀, t, T', L, E, ce, h0, X', hL, e1, e2, ⟨w2', hq, hP2, hD2, hF⟩, hce, hcv, hcl, stp⟩
  · cases hr
    obtain ⟨k1, k2, k3⟩ := vx_keep h0 e1 hS (fun q _ h => k_free hD hS hA q h) (k_free hD hS hA) hL hF
    obtain ⟨hP3, hD3⟩ := k_back hP hD hS hA k2 (by rw [e1]; exact hP2) hD2
    obtain ⟨t2, a1, b1⟩ := kk v w2' hq p l e s m args below meth c D A C0 T'.heap (locs ++ L) ls hP3 hD3 k3 hll T' rfl X'
    exact ⟨t2, stp t2 a1, b1⟩
  · obtain ⟨k1, k2, k3⟩ := vx_keep h0 e1 hS (fun q _ h => k_free hD hS hA q h) (k_free hD hS hA) hL hF
    obtain ⟨hP3, hD3⟩ := k_back hP hD hS hA k2 (by rw [e1]; exact hP2) hD2
    obtain ⟨t2, a1, b1⟩ := vx_out (Qc := kQ D A Q) (XC := kXQ D A QX) (mc := mc) (ms := ms) (free := A) (H := T'.heap) (pc := pc) (ls := ls) (rest := rest) (E := E) (ce := ce) (q := q) (fun x hx => (C0.2.2.2.2.2.1 x hx).elim) C0.2.2.2.2.1 (by rw [e1]; exact hce) hcv hcl (fun t1 ht1 _ => ⟨_, kx E w2' hq, by rw [ht1]; exact hP3, hD3, k3.F ht1⟩) k3.2.2 hc hs T' rfl X'
    exact ⟨t2, stp.trans a1, b1⟩
theorem Con.met {cy : Nat → ClassId} {av : List Value} (h : Con y2 cc2 nL2 ret2 d2 mc2 ms2 cy av w2 Q2 (fun _ _ => False)) (l : Launch) (hl : l.stackTraces = false) (D : va_G) (sz : Nat) : Met l y2 (Cond.code y2 cc2 nL2 ret2 :: kT) (kR d2 mc2 ms2)
    (va_Pc av (fun U => U.heap.size = sz ∧ va_P D kCl w2 U.heap ∧ va_D (fun _ => True) w2 ∧ KX cy D (va_A w2 sz) U U.heap)) (kQ D (va_A w2 sz) Q2) mc2 ms2 (va_A w2 sz) := by
  intro p hp hc e ha s m args below hf hfit hP h1
  obtain ⟨t, o, g1, g2, g3, g4⟩ := h l hl D sz p hp hc e ha s m args below hf hfit hP h1
  refine ⟨t, o, g1, g2, g3, ?_⟩
  rcases g4 with g4 | ⟨q, -, E, ce, L, ⟨w', h2, -⟩, -⟩
  · exact g4
  · exact h2.elim
end KD
