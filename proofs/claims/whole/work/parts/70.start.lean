/-! THE LAW'S START -/
section LS
variable {own : String} {cc : ByteArray} {nL : Nat} {cy : Nat → ClassId} {RM : Room} {Ex : kEx} {F : kFin} {pc : Nat} {lv lv' : List (Nat × Value)} {st rest : List Value} {w : va_W} {cells slots : Nat}
theorem JG_perm {w' : va_W} (h : w.Perm w') (kk : JG own cc nL cy RM Ex F pc lv st w' cells slots) : JG own cc nL cy RM Ex F pc lv st w cells slots := by
  intro p l e s m args below meth c D A C0 E0 H locs ls hP hD hS hll
  exact kk p l e s m args below meth c D A C0 E0 H locs ls (wd_mem (fun _ hq => h.mem_iff.mpr hq) hP) (wd_perm h hD) hS hll
theorem JG_new {index N ci : Nat} {C : String} {T : u_T} {fs : List Value} (hin : ∀ w ∈ u_ws C T N, w ∈ kT) (ty : Nat → FieldType) (hty : ∀ k, k < N → parseFieldDescriptor (T k).2.2.1 = some (ty k)) (hcl : Cond.classLink own index C ∈ kT) (hinst : Cond.instantiable C N ∈ kT) (hini : Cond.initialized C ∈ kT) (hc : kCl[ci]? = some (C, T, N)) (hfs : ∀ j, j < N → defaultValue (ty j) = vp_V fs j) (hcells : cells + 1 ≤ RM.cells) (hslots : slots + N ≤ RM.slots) (hd : decode cc pc = .ok (.new index, 3))
    (kk : ∀ q : Nat, JG own cc nL cy RM Ex F (pc + 3) lv (.ref q :: st) (w ++ [(q, .inr (ci, fs))]) (cells + 1) (slots + N)) : JG own cc nL cy RM Ex F pc lv st w cells slots := by
  intro p l e s m args below meth c D A C0 E0 H locs ls hP hD hS hll
  exact va_new (ci := ci) (fs := fs) (C := C) (T := T) (N := N) C0.1 C0.2.1 C0.2.2.2.2.1 hin ty hty C0.2.2.2.1 (C0.2.2.2.2.1 _ hcl) (C0.2.2.2.2.1 _ hinst) (C0.2.2.2.2.1 _ hini) C0.2.2.2.2.2.1.1 hP hD hS C0.2.2.2.2.2.2.1 hc hfs hcells hslots hd (fun q H1 hP1 hD1 hS1 => kk q p l e s m args below meth c D A C0 E0 H1 locs ls hP1 hD1 hS1 hll)
theorem JG_newa {atype : ArrayType} {ty : FieldType} {c0 : ClassId} {x : Int32} {N' : Nat} {a0 : vp_A} (t0 : Nat) (ht : (kTys cy)[t0]? = some (c0, ty)) (harr : Cond.arrayClass (newarray.typeOf atype) ∈ kT) (hty : newarray.typeOf atype = ty) (ha : ∀ cA : ClassId, vp_cell cA a0 = arrV cA N' (fun _ => defaultValue ty)) (hn : ¬ x < 0) (hN : x.toNatClampNeg = N') (hb : N' * componentBytes ty ≤ 536870912) (hc : cells + 1 ≤ RM.cells) (hs : slots + N' ≤ RM.slots) (hd : decode cc pc = .ok (.newarray atype, 2))
    (kk : ∀ q : Nat, JG own cc nL cy RM Ex F (pc + 2) lv (.ref q :: rest) (w ++ [(q, .inl (c0, a0))]) (cells + 1) (slots + N')) : JG own cc nL cy RM Ex F pc lv (.int x :: rest) w cells slots := by
  intro p l e s m args below meth c D A C0 E0 H locs ls hP hD hS hll
  refine va_newa C0.1 C0.2.1 (C0.2.2.2.2.1 _ harr) hty C0.2.2.2.2.2.1.1 hP hD hS C0.2.2.2.2.2.2.1 ha hn hN hb hc hs hd (fun q cA H1 hK1 hP1 hD1 hS1 => ?_)
  have e : cA = c0 := va_RA_u (hK1.2 9 (cA, ty) rfl).2 (C0.2.2.2.2.2.1.1.2 t0 _ ht).2
  subst e
  exact kk q p l e s m args below meth c D A C0 E0 H1 locs ls hP1 hD1 hS1 hll
variable {y2 : MethodName} {cc2 : ByteArray} {nL2 : Nat} {d2 mc2 ms2 : Nat} {Q2 : kQT} {As : List Value} {w2 : va_W} {index : Nat} {b : Nat}
theorem JG_callI (X Y : va_W) (hd : decode cc pc = .ok (.invokespecial index, 3)) (hcon : Con y2 cc2 nL2 none d2 mc2 ms2 cy (.ref b :: As) w2 Q2 (fun _ _ => False)) (hw : w = X ++ (w2 ++ Y)) (hlink : Cond.methodLink own index y2 ∈ kT) (hcode : Cond.code y2 cc2 nL2 none ∈ kT) (hini : Cond.initialized y2.cls ∈ kT) (hinst : Cond.instanceMethod y2 ∈ kT) (hy1 : y2.name = "<init>")
    (hy : y2.cls ≠ "java/lang/invoke/MethodHandle" ∧ y2.cls ≠ "java/lang/invoke/VarHandle" ∧ (parseMethodDescriptor y2.desc).map (fun d => d.parameters.length) = some As.length) (hroom : d2 + 1 ≤ RM.frames ∧ 8 + (nL2 + 11) + (40 * d2 + 100) ≤ RM.locals) (hc : cells + mc2 ≤ RM.cells) (hs : slots + ms2 ≤ RM.slots) (hst : (rest.map fun v => v.category).sum ≤ 8)
    (kk : ∀ (r : Option Value) (w2' : va_W), Q2 r w2' → JG own cc nL cy RM Ex F (pc + 3) lv (r.toList ++ rest) (X ++ (w2' ++ Y)) (cells + mc2) (slots + ms2)) : JG own cc nL cy RM Ex F pc lv (As.reverse ++ .ref b :: rest) w cells slots := by
  subst hw
  intro p l e s m args below meth c D A C0 E0 H locs ls hP hD hS hll
  have hts := C0.2.2.2.2.1
  have hK := C0.2.2.2.2.2.1
  have hA := C0.2.2.2.2.2.2.1
  have hM := Con.met hcon l C0.2.2.2.2.2.2.2.1 D H.size
  have hcb := kg_callB (s := s) (args := args) (n := As.length) (RM := RM) (d2 := d2) (mc2 := mc2) (ms2 := ms2) hts hlink hcode hini hy hroom
  have hpre := k_pre (av := .ref b :: As) hP hD hS hA hK
  intro T hT X9
  obtain ⟨v, st₀, t, T', L, h0, X', hL, e1, e2, ⟨⟨r, w2', hr, hq, hP2, hD2⟩, hF⟩, stp⟩ := va_runI (b := b) (As := As) (g := F0 m pc ls (As.reverse ++ .ref b :: rest)) (rest := rest) ⟨C0.1, C0.2.1, C0.2.2.1, C0.2.2.2.1, hts⟩ hM ⟨hcb, hy1, hts _ hinst⟩ hpre rfl rfl (hll.1.trans rfl) rfl (by show 2 * 0 + _ ≤ 8; omega) hd ⟨hc, hs⟩ T hT X9
  cases hr
  obtain ⟨k1, k2, k3⟩ := vx_keep h0 e1 hS (fun q _ h => k_free hD hS hA q h) (k_free hD hS hA) hL hF
  obtain ⟨hP3, hD3⟩ := k_back hP hD hS hA k2 (by rw [e1]; exact hP2) hD2
  obtain ⟨t2, a1, b1⟩ := kk v w2' hq p l e s m args below meth c D A C0 E0 T'.heap (locs ++ L) ls hP3 hD3 k3 hll T' rfl X'
  exact ⟨t2, stp t2 a1, b1⟩
end LS
/-- what the tables say of the start: classes, arrays -/
theorem arr_p {s : State} {args : Array Value} {ty : FieldType} (hn : ∀ C, ty ≠ .object C) (h : (Cond.arrayClass ty).before args s = true) : ∃ c : ClassId, ArrOfT s c ty ∧ va_RA s c ty := by
  obtain ⟨c, k, comp, h1, h2, h3⟩ := Cond.arrayClass_spec (args := args) (first := s) (o := none) (s := s) (idx := []) h
  refine ⟨c, fun n z => ⟨fun k h => (by cases h), k, h2, comp, h3⟩, ?_⟩
  cases ty with
  | object C => exact absurd rfl (hn C)
  | _ => exact h1
theorem arr_o {s : State} {args : Array Value} {C : String} (h : (Cond.arrayOver (.object C)).before args s = true) : ∃ c : ClassId, ArrOfT s c (.object C) ∧ va_RA s c (.object C) := by
  obtain ⟨comp, c, k, h1, -, h2, h3, h4⟩ := Cond.arrayOver_spec (args := args) (first := s) (o := none) (s := s) (idx := []) h
  exact ⟨c, fun n z => ⟨fun k h => (by cases h), k, h2, comp, h3⟩, k, comp, h2, h3, h1, h4⟩
theorem arr_a {s : State} {args : Array Value} {t : FieldType} (h : (Cond.arrayOver (.array t)).before args s = true) : ∃ c : ClassId, ArrOfT s c (.array t) ∧ va_RA s c (.array t) := by
  obtain ⟨comp, c, k, h1, h2, h3, h4⟩ := Cond.arrayOver_specA (args := args) (first := s) (o := none) (s := s) (idx := []) h
  exact ⟨c, fun n z => ⟨fun k h => (by cases h), k, h2, comp, h3⟩, h4⟩
theorem kinJ0 : ∀ w ∈ u_ws RJ0 TJ0 2, w ∈ lw_tbl := List.forall_mem_cons.mpr ⟨(List.mem_of_getElem? (i := 581) (by decide +kernel)), List.forall_mem_cons.mpr ⟨(List.mem_of_getElem? (i := 583) (by decide +kernel)), fun _ h => absurd h List.not_mem_nil⟩⟩
theorem kinJx : ∀ w ∈ u_ws RJx00060 TJx00060 6, w ∈ lw_tbl := List.forall_mem_cons.mpr ⟨(List.mem_of_getElem? (i := 569) (by decide +kernel)), List.forall_mem_cons.mpr ⟨(List.mem_of_getElem? (i := 570) (by decide +kernel)), List.forall_mem_cons.mpr ⟨(List.mem_of_getElem? (i := 571) (by decide +kernel)), List.forall_mem_cons.mpr ⟨(List.mem_of_getElem? (i := 572) (by decide +kernel)), List.forall_mem_cons.mpr ⟨(List.mem_of_getElem? (i := 573) (by decide +kernel)), List.forall_mem_cons.mpr ⟨(List.mem_of_getElem? (i := 574) (by decide +kernel)), fun _ h => absurd h List.not_mem_nil⟩⟩⟩⟩⟩⟩
theorem D_ex {s : State} {args : Array Value} (hts : ∀ w ∈ lw_tbl, w.before args s = true) : ∃ D : va_G, ∀ (c : Nat) (q : vw_C), kCl[c]? = some q → u_Kn s q.1 q.2.1 q.2.2 (D.1 c) (D.2 c) := by
  have h9 : ∀ c : Nat, ∃ f : ClassId × (Nat → Nat), ∀ q : vw_C, kCl[c]? = some q → u_Kn s q.1 q.2.1 q.2.2 f.1 f.2 := by
    obtain ⟨c0, f0, h0⟩ := u_known hts kinJ0 (hts (.instantiable RJ0 4) (List.mem_of_getElem? (i := 580) (by decide +kernel)))
    obtain ⟨c1, f1, h1⟩ := u_known hts kinJx (hts (.instantiable RJx00060 6) (List.mem_of_getElem? (i := 565) (by decide +kernel)))
    obtain ⟨c2, f2, h2⟩ := u_known (fun w h => hts w (kT_lw w h)) kin0 (hts _ (kT_lw _ li_0))
    obtain ⟨c3, f3, h3⟩ := u_known (fun w h => hts w (kT_lw w h)) kin1 (hts _ (kT_lw _ li_1))
    obtain ⟨c4, f4, h4⟩ := u_known (fun w h => hts w (kT_lw w h)) kin2 (hts _ (kT_lw _ li_2))
    obtain ⟨c5, f5, h5⟩ := u_known (fun w h => hts w (kT_lw w h)) kin3 (hts _ (kT_lw _ li_3))
    obtain ⟨c6, f6, h6⟩ := u_known (fun w h => hts w (kT_lw w h)) kin4 (hts _ (kT_lw _ li_4))
    obtain ⟨c7, f7, h7⟩ := u_known (fun w h => hts w (kT_lw w h)) kin5 (hts _ (kT_lw _ li_5))
    obtain ⟨c8, f8, h8⟩ := u_known (fun w h => hts w (kT_lw w h)) kin6 (hts _ (kT_lw _ li_6))
    obtain ⟨c9, f9, h9⟩ := u_known (fun w h => hts w (kT_lw w h)) kin7 (hts _ (kT_lw _ li_7))
    obtain ⟨c10, f10, h10⟩ := u_known (fun w h => hts w (kT_lw w h)) kin8 (hts _ (kT_lw _ li_8))
    exact fun c => match c with
    | 0 => ⟨(c0, f0), fun r h => by cases h; exact h0⟩
    | 1 => ⟨(c1, f1), fun r h => by cases h; exact h1⟩
    | 2 => ⟨(c2, f2), fun r h => by cases h; exact h2⟩
    | 3 => ⟨(c3, f3), fun r h => by cases h; exact h3⟩
    | 4 => ⟨(c4, f4), fun r h => by cases h; exact h4⟩
    | 5 => ⟨(c5, f5), fun r h => by cases h; exact h5⟩
    | 6 => ⟨(c6, f6), fun r h => by cases h; exact h6⟩
    | 7 => ⟨(c7, f7), fun r h => by cases h; exact h7⟩
    | 8 => ⟨(c8, f8), fun r h => by cases h; exact h8⟩
    | 9 => ⟨(c9, f9), fun r h => by cases h; exact h9⟩
    | 10 => ⟨(c10, f10), fun r h => by cases h; exact h10⟩
    | n + 11 => ⟨(c0, f0), fun r h => by simp at h⟩
  obtain ⟨g, hg⟩ := Classical.axiomOfChoice h9
  exact ⟨(fun c => (g c).1, fun c => (g c).2), fun c q h => hg c q h⟩
theorem cy_ex {s : State} {args : Array Value} (hts : ∀ w ∈ lw_tbl, w.before args s = true) : ∃ cy : Nat → ClassId, ∀ (k : Nat) (q : ClassId × FieldType), (kTys cy)[k]? = some q → ArrOfT s q.1 q.2 ∧ va_RA s q.1 q.2 := by
  obtain ⟨c0, h0⟩ := arr_p (ty := .int) (fun _ h => by cases h) (hts _ (List.mem_of_getElem? (i := 121) (by decide +kernel)))
  obtain ⟨c1, h1⟩ := arr_p (ty := .char) (fun _ h => by cases h) (hts _ (List.mem_of_getElem? (i := 1104) (by decide +kernel)))
  obtain ⟨c2, h2⟩ := arr_p (ty := .boolean) (fun _ h => by cases h) (hts _ (List.mem_of_getElem? (i := 1103) (by decide +kernel)))
  obtain ⟨c3, h3⟩ := arr_p (ty := .long) (fun _ h => by cases h) (hts _ (List.mem_of_getElem? (i := 1399) (by decide +kernel)))
  obtain ⟨c4, h4⟩ := arr_p (ty := .double) (fun _ h => by cases h) (hts _ (List.mem_of_getElem? (i := 1400) (by decide +kernel)))
  obtain ⟨c5, h5⟩ := arr_o (C := "FoghornExchange$RadioCall") (hts _ (List.mem_of_getElem? (i := 149) (by decide +kernel)))
  obtain ⟨c6, h6⟩ := arr_o (C := "FoghornExchange$Station") (hts _ (List.mem_of_getElem? (i := 87) (by decide +kernel)))
  obtain ⟨c7, h7⟩ := arr_o (C := "FoghornExchange$Entry") (hts _ (List.mem_of_getElem? (i := 182) (by decide +kernel)))
  obtain ⟨c8, h8⟩ := arr_a (t := .int) (hts _ (List.mem_of_getElem? (i := 89) (by decide +kernel)))
  refine ⟨fun k => match k with | 0 => c0 | 1 => c1 | 2 => c2 | 3 => c3 | 4 => c4 | 5 => c5 | 6 => c6 | 7 => c7 | _ => c8, ?_⟩
  intro k
  exact match k with
    | 0 => fun q h => by cases h; exact h0
    | 1 => fun q h => by cases h; exact h1
    | 2 => fun q h => by cases h; exact h2
    | 3 => fun q h => by cases h; exact h3
    | 4 => fun q h => by cases h; exact h4
    | 5 => fun q h => by cases h; exact h5
    | 6 => fun q h => by cases h; exact h6
    | 7 => fun q h => by cases h; exact h7
    | 8 => fun q h => by cases h; exact h8
    | n + 9 => fun q h => by simp at h
theorem tb_exc : ∀ C ∈ kExc, Cond.castable C C ∈ lw_tbl := List.forall_mem_cons.mpr ⟨(List.mem_of_getElem? (i := 466) (by decide +kernel)), List.forall_mem_cons.mpr ⟨(List.mem_of_getElem? (i := 486) (by decide +kernel)), List.forall_mem_cons.mpr ⟨(List.mem_of_getElem? (i := 304) (by decide +kernel)), List.forall_mem_cons.mpr ⟨(List.mem_of_getElem? (i := 641) (by decide +kernel)), List.forall_mem_cons.mpr ⟨(List.mem_of_getElem? (i := 979) (by decide +kernel)), fun _ h => absurd h List.not_mem_nil⟩⟩⟩⟩⟩
theorem tb_nest : ∀ q ∈ kNestM, Cond.methodLinkNest q.1 q.2.1 q.2.2 "FoghornExchange" ∈ lw_tbl := List.forall_mem_cons.mpr ⟨(List.mem_of_getElem? (i := 782) (by decide +kernel)), List.forall_mem_cons.mpr ⟨(List.mem_of_getElem? (i := 184) (by decide +kernel)), List.forall_mem_cons.mpr ⟨(List.mem_of_getElem? (i := 91) (by decide +kernel)), List.forall_mem_cons.mpr ⟨(List.mem_of_getElem? (i := 163) (by decide +kernel)), List.forall_mem_cons.mpr ⟨(List.mem_of_getElem? (i := 144) (by decide +kernel)), fun _ h => absurd h List.not_mem_nil⟩⟩⟩⟩⟩
theorem tb_str : ∀ q ∈ kStr, Cond.stringRef q.1 q.2.1 q.2.2 ∈ lw_tbl := List.forall_mem_cons.mpr ⟨(List.mem_of_getElem? (i := 346) (by decide +kernel)), List.forall_mem_cons.mpr ⟨(List.mem_of_getElem? (i := 473) (by decide +kernel)), List.forall_mem_cons.mpr ⟨(List.mem_of_getElem? (i := 493) (by decide +kernel)), List.forall_mem_cons.mpr ⟨(List.mem_of_getElem? (i := 589) (by decide +kernel)), List.forall_mem_cons.mpr ⟨(List.mem_of_getElem? (i := 626) (by decide +kernel)), List.forall_mem_cons.mpr ⟨(List.mem_of_getElem? (i := 648) (by decide +kernel)), List.forall_mem_cons.mpr ⟨(List.mem_of_getElem? (i := 669) (by decide +kernel)), List.forall_mem_cons.mpr ⟨(List.mem_of_getElem? (i := 690) (by decide +kernel)), List.forall_mem_cons.mpr ⟨(List.mem_of_getElem? (i := 705) (by decide +kernel)), List.forall_mem_cons.mpr ⟨(List.mem_of_getElem? (i := 714) (by decide +kernel)), List.forall_mem_cons.mpr ⟨(List.mem_of_getElem? (i := 798) (by decide +kernel)), List.forall_mem_cons.mpr ⟨(List.mem_of_getElem? (i := 806) (by decide +kernel)), List.forall_mem_cons.mpr ⟨(List.mem_of_getElem? (i := 807) (by decide +kernel)), List.forall_mem_cons.mpr ⟨(List.mem_of_getElem? (i := 836) (by decide +kernel)), List.forall_mem_cons.mpr ⟨(List.mem_of_getElem? (i := 855) (by decide +kernel)), List.forall_mem_cons.mpr ⟨(List.mem_of_getElem? (i := 879) (by decide +kernel)), List.forall_mem_cons.mpr ⟨(List.mem_of_getElem? (i := 911) (by decide +kernel)), List.forall_mem_cons.mpr ⟨(List.mem_of_getElem? (i := 920) (by decide +kernel)), List.forall_mem_cons.mpr ⟨(List.mem_of_getElem? (i := 928) (by decide +kernel)), List.forall_mem_cons.mpr ⟨(List.mem_of_getElem? (i := 948) (by decide +kernel)), List.forall_mem_cons.mpr ⟨(List.mem_of_getElem? (i := 986) (by decide +kernel)), List.forall_mem_cons.mpr ⟨(List.mem_of_getElem? (i := 995) (by decide +kernel)), fun _ h => absurd h List.not_mem_nil⟩⟩⟩⟩⟩⟩⟩⟩⟩⟩⟩⟩⟩⟩⟩⟩⟩⟩⟩⟩⟩⟩
theorem tb_decl : ∀ y ∈ kDecl, Cond.declares y ∈ lw_tbl := List.forall_mem_cons.mpr ⟨(List.mem_of_getElem? (i := 306) (by decide +kernel)), List.forall_mem_cons.mpr ⟨(List.mem_of_getElem? (i := 308) (by decide +kernel)), List.forall_mem_cons.mpr ⟨(List.mem_of_getElem? (i := 310) (by decide +kernel)), fun _ h => absurd h List.not_mem_nil⟩⟩⟩
theorem fl_str : ∀ q ∈ kStr, Cond.exactly (.string q.1 q.2.1) "java/lang/String" ∈ flatC (Jvm.Cond.and given_1 narrow_1) := by decide +kernel
theorem fl_nc : ∀ q ∈ kNCs, Cond.not (.castable q.1 q.2) ∈ flatC (Jvm.Cond.and given_1 narrow_1) := by decide +kernel
theorem start_KX {s : State} {args : Array Value} (hts : ∀ w ∈ lw_tbl, w.before args s = true) (hg : (Jvm.Cond.and given_1 narrow_1).before args s = true) : ∃ (cy : Nat → ClassId) (D : va_G), KX cy D (fun q => s.heap.size ≤ q) s s.heap ∧ NC s := by
  have hs := flat_of_before _ hg
  obtain ⟨D, hD⟩ := D_ex hts
  obtain ⟨cy, hcy⟩ := cy_ex hts
  refine ⟨cy, D, ⟨⟨hD, hcy⟩, fun C hC => va_Nw.of rfl (hts _ (tb_exc C hC)), ⟨fun q hq => va_Nw.of rfl (hts _ (tb_nest q hq)), va_Nw.of rfl (hts _ (List.mem_of_getElem? (i := 205) (by decide +kernel))), ?_, hts (.arrayOver (.array .int)) (List.mem_of_getElem? (i := 89) (by decide +kernel)), fun y hy => va_Nw.of rfl (hts _ (tb_decl y hy))⟩, fun q hq => ?_, ?_, ?_⟩, fun q hq => va_Nc.of (hs _ (fl_nc q hq))⟩
  · exact List.forall_mem_cons.mpr ⟨va_AO.of (hts _ (List.mem_of_getElem? (i := 149) (by decide +kernel))), List.forall_mem_cons.mpr ⟨va_AO.of (hts _ (List.mem_of_getElem? (i := 87) (by decide +kernel))), List.forall_mem_cons.mpr ⟨va_AO.of (hts _ (List.mem_of_getElem? (i := 182) (by decide +kernel))), fun _ h => absurd h List.not_mem_nil⟩⟩⟩
  · obtain ⟨a, c, cA, kA, q1, -⟩ := Cond.exactly_spec (args := args) (first := s) (o := none) (s := s) (idx := []) (t := .string q.1 q.2.1) (cls := "java/lang/String") (hs _ (fl_str q hq))
    exact ⟨a, vk_R.of (hts _ (tb_str q hq)) q1⟩
  · exact vx_Zqof (hts _ (List.mem_of_getElem? (i := 329) (by decide +kernel))) (hts _ (List.mem_of_getElem? (i := 60) (by decide +kernel))) (hs _ (by decide +kernel)) (fun a h => Nat.not_le.mpr h)
  · exact vx_Zqof (hts _ (List.mem_of_getElem? (i := 331) (by decide +kernel))) (hts _ (List.mem_of_getElem? (i := 60) (by decide +kernel))) (hs _ (by decide +kernel)) (fun a h => Nat.not_le.mpr h)
def m0 : Mu := (fun _ _ => 0, 0)
theorem m0_S : mS m0 = 0 := rfl
theorem m0_C : mC m0 = 0 := rfl
theorem m0_rel : Rel m0 (fun _ _ _ => 0) (fun _ _ _ => 0) (fun _ _ _ => none) [] (fun _ => 0) [] [] 0 := by
  refine ⟨⟨rfl, ⟨rfl, by decide⟩, fun s _ => ⟨rfl, rfl, rfl⟩, fun s h => absurd h (Nat.not_lt_zero s)⟩, ⟨rfl, ⟨rfl, by decide, fun i h => absurd h (Nat.not_lt_zero i)⟩, fun i h => absurd h (Nat.not_lt_zero i)⟩, ⟨fun h _ => rfl, fun h _ => rfl⟩, ⟨rfl, by decide, rfl, fun j _ => by simp, fun j _ => by simp, fun c => ⟨fun h => (by cases h), fun h => absurd h.1 (Nat.not_lt_zero c)⟩, fun c => Iff.rfl, List.Pairwise.nil, List.nodup_nil⟩, ⟨rfl, rfl, rfl, rfl, fun k _ => ⟨rfl, rfl, rfl, rfl⟩⟩, rfl, rfl, rfl, rfl, rfl⟩
theorem m0_inv : Inv m0 0 := by
  refine ⟨by decide, fun s h => absurd h (Nat.not_lt_zero s), by decide, fun i h => absurd h (Nat.not_lt_zero i), ⟨⟨fun i h => absurd h (Nat.not_lt_zero i), fun i _ h => absurd h (Nat.not_lt_zero i)⟩, fun i _ h => absurd h (Nat.not_lt_zero i), fun i h => absurd h (Nat.not_lt_zero i)⟩, by decide, ⟨0, 0, 0, rfl, by decide, rfl, by decide, rfl, by decide, fun i h => absurd h (Nat.not_lt_zero i), fun i h => absurd h (Nat.not_lt_zero i)⟩, ⟨fun i _ => ⟨rfl, rfl⟩, fun s _ => rfl, fun s => (by show (0 : Int32) ≤ 0; decide)⟩, ⟨0, 0, 0, rfl, by decide, rfl, rfl, by decide, by decide⟩⟩
theorem m0_mr : MR m0 0 (fun _ _ _ => 0) (fun _ _ _ => 0) := ⟨fun k j _ => rfl, rfl, rfl⟩
def kSm (S7 S8 : Nat → Nat → Nat) (q3 q4 : Nat) : Nat → Nat → Nat := fun k i => if k < 30 then S7 k i else if k < 80 then S8 k i else if k = 80 then q3 else q4
set_option maxRecDepth 20000 in
theorem kSm_c {cy : Nat → ClassId} {S7 S8 : Nat → Nat → Nat} {q3 q4 : Nat} : wc cy S7 (fun _ _ _ => 0) (fun _ _ _ => 0) (fun _ _ _ => none) [] = wc cy (kSm S7 S8 q3 q4) (fun _ _ _ => 0) (fun _ _ _ => 0) (fun _ _ _ => none) [] := rfl
set_option maxRecDepth 20000 in
theorem kSm_m {cy : Nat → ClassId} {S7 S8 : Nat → Nat → Nat} {q3 q4 : Nat} : wm cy S8 (fun _ _ _ => 0) (fun _ _ _ => 0) (fun _ _ _ => none) = wm cy (kSm S7 S8 q3 q4) (fun _ _ _ => 0) (fun _ _ _ => 0) (fun _ _ _ => none) := rfl
theorem kSm_l {cy : Nat → ClassId} {S7 S8 : Nat → Nat → Nat} {q3 q4 : Nat} : [(q3, .inl (cy 3, 1, .inr (.inl (fun _ => 0)))), (q4, .inl (cy 4, 1, .inr (.inr (.inr (.inl (fun _ => (0 : Int64).toUInt64))))))] = wlo cy (kSm S7 S8 q3 q4) (fun _ _ _ => 0) := rfl
theorem law_walk {cy : Nat → ClassId} {b Lx : Nat} {xs : Nat → Int32} (hLx : Lx ≤ 2560) : JG RL cL_law 9 cy room_1 (ExL b Lx xs) FinL 0 [(0, .ref b)] [] [] 0 0 := by
  refine JG_new (ci := 9) (C := RX7) (T := TX7) (N := 11) kin7 tyX7 tyX7_ok lk_L_8 li_7 kini7 rfl (fs := [.null, .null, .null, .null, .null, .int 0, .int 0, .int 0, .long 0, .long 0, .int 0]) (by decide +kernel) (by decide) (by decide) dL_law_0 (fun q1 => ?_)
  refine JG_dup rfl dL_law_3 ?_
  refine JG_callI (b := q1) (As := []) (rest := [.ref q1]) [] [] dL_law_4 (c_X7_init (b := q1)) rfl lm_L_123 kc_yX7_init kini7 ki_yX7_init rfl kd_yX7_init ⟨by decide, by decide⟩ (by decide) (by decide) (Nat.le_of_ble_eq_true rfl) (fun r7 w7 h7 => ?_)
  obtain ⟨rfl, S7, rfl, rfl⟩ := h7
  refine JG_eq (w' := wc cy S7 (fun _ _ _ => 0) (fun _ _ _ => 0) (fun _ _ _ => none) []) (lv' := [(0, .ref b)]) (st' := [.ref (S7 0 0)]) (by rw [List.append_nil]; rfl) rfl rfl ?_
  refine JG_astore_n (lv' := [(0, .ref b), (1, .ref (S7 0 0))]) (by decide) rfl dL_law_7 ?_
  refine JG_new (ci := 10) (C := RX8) (T := TX8) (N := 32) kin8 tyX8 tyX8_ok lk_L_124 li_8 kini8 rfl (fs := [.int 0, .null, .null, .null, .null, .null, .null, .null, .null, .int 0, .int 0, .null, .null, .null, .null, .null, .null, .null, .null, .null, .null, .int 0, .int 0, .int 0, .null, .long 0, .int 0, .int 0, .null, .null, .null, .int 0]) (by decide +kernel) (by decide) (by decide) dL_law_8 (fun q2 => ?_)
  refine JG_dup rfl dL_law_11 ?_
  refine JG_callI (b := q2) (As := []) (rest := [.ref q2]) (wc cy S7 (fun _ _ _ => 0) (fun _ _ _ => 0) (fun _ _ _ => none) []) [] dL_law_12 (c_X8_init (b := q2)) rfl lm_L_126 kc_yX8_init kini8 ki_yX8_init rfl kd_yX8_init ⟨by decide, by decide⟩ (by decide) (by decide) (Nat.le_of_ble_eq_true rfl) (fun r8 w8 h8 => ?_)
  obtain ⟨rfl, S8, rfl, rfl⟩ := h8
  refine JG_eq (w' := wc cy S7 (fun _ _ _ => 0) (fun _ _ _ => 0) (fun _ _ _ => none) [] ++ wm cy S8 (fun _ _ _ => 0) (fun _ _ _ => 0) (fun _ _ _ => none)) (lv' := [(0, .ref b), (1, .ref (S7 0 0))]) (st' := [.ref (S8 30 0)]) (by rw [List.append_nil]) rfl rfl ?_
  refine JG_astore_n (lv' := [(0, .ref b), (1, .ref (S7 0 0)), (2, .ref (S8 30 0))]) (by decide) rfl dL_law_15 ?_
  refine JG_iconst (v := 1) (by decide) dL_law_16 ?_
  refine JG_newa (N' := 1) (a0 := (1, .inr (.inl (fun _ => 0)))) 3 rfl lar_long rfl (fun _ => rfl) (by decide) (by decide) (by decide) (by decide) (by decide) dL_law_17 (fun q3 => ?_)
  refine JG_astore_n (lv' := [(0, .ref b), (1, .ref (S7 0 0)), (2, .ref (S8 30 0)), (3, .ref q3)]) (by decide) rfl dL_law_19 ?_
  refine JG_iconst (v := 1) (by decide) dL_law_20 ?_
  refine JG_newa (N' := 1) (a0 := (1, .inr (.inr (.inr (.inl (fun _ => (0 : Int64).toUInt64)))))) 4 rfl lar_double rfl (fun _ => rfl) (by decide) (by decide) (by decide) (by decide) (by decide) dL_law_21 (fun q4 => ?_)
  refine JG_astore (lv' := [(0, .ref b), (1, .ref (S7 0 0)), (2, .ref (S8 30 0)), (3, .ref q3), (4, .ref q4)]) (by decide) rfl dL_law_23 ?_
  refine JG_iconst (v := 0) (by decide) dL_law_25 ?_
  refine JG_istore (lv' := [(0, .ref b), (1, .ref (S7 0 0)), (2, .ref (S8 30 0)), (3, .ref q3), (4, .ref q4), (5, .int 0)]) (by decide) rfl dL_law_26 ?_
  refine JG_perm (w' := wm cy S8 (fun _ _ _ => 0) (fun _ _ _ => 0) (fun _ _ _ => none) ++ (wc cy S7 (fun _ _ _ => 0) (fun _ _ _ => 0) (fun _ _ _ => none) [] ++ [(q3, .inl (cy 3, 1, .inr (.inl (fun _ => 0)))), (q4, .inl (cy 4, 1, .inr (.inr (.inr (.inl (fun _ => (0 : Int64).toUInt64))))))])) ?_ ?_
  · rw [List.append_assoc, ← List.append_assoc (wm cy S8 (fun _ _ _ => 0) (fun _ _ _ => 0) (fun _ _ _ => none))]
    exact List.Perm.append_right _ List.perm_append_comm
  refine JG_eq ?_ ?_ rfl (law_loop (S := kSm S7 S8 q3 q4) (R2 := (fun _ _ _ => none)) hLx 512 0 0 (fun _ _ _ => 0) (fun _ _ _ => 0) (fun _ _ _ => none) [] (fun _ => 0) [] [] 0 (fun _ _ _ => 0) (fun _ _ _ => 0) (fun _ _ _ => 0) m0 0 0 _ _ (by omega) rfl (by decide) m0_rel (by decide) m0_inv (by decide) m0_mr (by decide) (by decide))
  · rw [kSm_c (S8 := S8) (q3 := q3) (q4 := q4), kSm_m (S7 := S7) (q3 := q3) (q4 := q4), kSm_l (S7 := S7) (S8 := S8)]
  · rfl
theorem whole_start {p : Program} {e : Env} {s : State} {m : MethodId} {below : List Frame} {meth : Method} {c : Code} (l : Launch) (hflags : l.flags = flags0) {b L : Nat} {xs : Nat → Int32} (hL : L ≤ 2560) (C0 : lw_At p s m meth c b L xs) : W p l e room_1 s m #[Value.ref b] below meth c s.heap [] 0 0 (lw_Z below #[Value.ref b] s) (entryFrame m ([Value.ref b] : List Value).toArray 9) := by
  obtain ⟨hx, hb, hr, hml, hown, hts, hX, hbl, hlk, hg⟩ := C0
  obtain ⟨cy, D, hK, hN⟩ := start_KX hts hg
  have hll := lv_entry [Value.ref b] (n := 9) (Nat.le_of_ble_eq_true rfl)
  have hfl : l.stackTraces = false := by
    unfold Launch.stackTraces
    rw [hflags]
    decide +kernel
  rw [lg_entry_eq]
  exact law_walk (cy := cy) hL p l e s m #[Value.ref b] below meth c D (fun q => s.heap.size ≤ q) ⟨hx, hb, hml, hown, fun w h => hts w (kT_lw w h), hK, fun _ h => h, hfl, hN⟩ ⟨rfl, hX, hbl, rfl, hr, hlk⟩ s.heap [] _ (fun k q h => by simp at h) ⟨fun i j p q h => by simp at h, fun k q h => by simp at h⟩ va_S.rf hll
