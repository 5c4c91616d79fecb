/-! the public calls on watches, ways and the log, by cases -/
theorem gf_7_251 {nm : String} {cc : ByteArray} {nL : Nat} {ret : Option FieldType} {d mc ms : Nat} {cy : Nat → ClassId} {Q : kQT} {QX : kXT} {pc : Nat} {lv : List (Nat × Value)} {rest : List Value} {cells slots : Nat} {S : Nat → Nat → Nat} {I : kI} {L : kL} {R : kRf} {NL : List (Nat × Nat)} {i : Nat} (hm : (4, i) ∈ NL) (hd : decode cc pc = .ok (.getfield 251, 3)) (kk : J RX7 nm cc nL ret d mc ms cy Q QX (pc + 3) lv (.int (I 4 i 3) :: rest) (kw S (shA cy S) I L R NL) cells slots) : J RX7 nm cc nL ret d mc ms cy Q QX pc lv (.ref (ka S 4 i) :: rest) (kw S (shA cy S) I L R NL) cells slots := by
  intro p l e s m args below meth c D A C0 H locs ls hP hD hS hll
  obtain ⟨q0, hq, -⟩ := kw_get (S := S) (sh := shA cy S) (I := I) (L := L) (R := R) hm
  exact va_getN (D := D) (ci := 6) (C := RX4) (T := TX4) (N := 4) (host := "FoghornExchange") (ref := RX4) C0.1 C0.2.1 C0.hts kin4 C0.2.2.2.2.2.2.2.1 C0.2.2.2.2.2.2.2.2.2.1.1 hP q0 hq rfl 3 (by decide) (va_Nw.use rfl C0.2.2.2.2.2.2.2.2.2.1.2.2.1.2.1) (fun _ h9 => h9) rfl hd (kk p l e s m args below meth c D A C0 H locs ls hP hD hS hll)
theorem slot_eq {lg j : Nat} (h : j < min lg 60) : slotF (lg % 60) j = (lg - 1 - j) % 60 := by
  unfold slotF
  split <;> omega
theorem rel_sw {m : Mu} {I : kI} {L : kL} {R : kRf} {LP : List Nat} {rc : Nat → Nat} {ln qu : List Nat} {lg : Nat} {s : Nat} {v : Int32} (hR : Rel m I L R LP rc ln qu lg) : Rel (ms (ms m 44 s v) 45 s (m.1 30 26)) (ku (ku I 17 s 3 v) 17 s 4 (m.1 30 26)) L R LP rc ln qu lg := by
  obtain ⟨⟨s1, s2, s3, s4⟩, hC, hH, hL, hG, hT⟩ := hR
  refine ⟨⟨s1, s2, fun x hx => ?_, fun x hx => ?_⟩, hC, hH, hL, hG, hT⟩
  · obtain ⟨p, q, r⟩ := s3 x hx
    by_cases e : x = s
    · subst e; simp [ku, ms, r]
    · simp [ku, ms, e, p, q, r]
  · obtain ⟨p, q, r⟩ := s4 x hx
    simp [ku, ms]
    exact ⟨p, q, r⟩
theorem rel_rp {m : Mu} {I : kI} {L : kL} {R : kRf} {LP : List Nat} {rc : Nat → Nat} {ln qu : List Nat} {lg : Nat} {s : Nat} (hR : Rel m I L R LP rc ln qu lg) : Rel (ms m 45 s (m.1 30 26)) (ku I 17 s 4 (m.1 30 26)) L R LP rc ln qu lg := by
  obtain ⟨⟨s1, s2, s3, s4⟩, hC, hH, hL, hG, hT⟩ := hR
  refine ⟨⟨s1, s2, fun x hx => ?_, fun x hx => ?_⟩, hC, hH, hL, hG, hT⟩
  · obtain ⟨p, q, r⟩ := s3 x hx
    by_cases e : x = s
    · subst e; simp [ku, ms, p, r]
    · simp [ku, ms, e, p, q, r]
  · obtain ⟨p, q, r⟩ := s4 x hx
    simp [ku, ms]
    exact ⟨p, q, r⟩

set_option maxRecDepth 20000 in
set_option maxHeartbeats 1000000 in
theorem c_X7_setWatch_s {cy : Nat → ClassId} {S : Nat → Nat → Nat} {I : kI} {L : kL} {R : kRf} {LP : List Nat} {m : Mu} {rc : Nat → Nat} {ln qu : List Nat} {lg B : Nat} {s : Nat} {v : Int32} (hR : Rel m I L R LP rc ln qu lg) (hI : Inv m B) (hB : B < 2 ^ 30) (hlg : lg < 2 ^ 30) (hs : s < mS m) (hv : v = 0 ∨ (5 ≤ v ∧ v ≤ 60)) : Con yX7_setWatch cX7_setWatch 5 (some .int) 7 0 0 cy [.ref (ka S 0 0), .int (nI s), .int v] (wc cy S I L R LP) (fun r w' => r = some (.int (m.1 44 s)) ∧ RelX cy S LP rc (ms (ms m 44 s v) 45 s (m.1 30 26)) w') kF := by
  obtain ⟨hS, hC, hH, hL, hG, hT⟩ := hR
  have hR : Rel m I L R LP rc ln qu lg := ⟨hS, hC, hH, hL, hG, hT⟩
  have hRc := hC.2.2
  have hkk := hI.2.2.2.1
  have hh := hI.2.2.2.2.1
  have hst := hS.2.1
  have hst2 := hst.2
  have hs10 : s < 10 := by omega
  obtain ⟨g0, g1, g2⟩ := hS.2.2.2 s hs
  obtain ⟨g3, g4, g5⟩ := hS.2.2.1 s hs10
  refine Con_of (by decide +kernel) (Nat.le_of_ble_eq_true rfl) ?_
  refine J_eq (lv' := [(0, .ref (ka S 0 0)), (1, .int (nI s)), (2, .int v)]) rfl rfl rfl ?_
  refine J_aload_n 0 rfl dX7_setWatch_0 ?_
  refine gf_7_10 (n0 _) dX7_setWatch_1 ?_
  refine J_iload_n 1 rfl dX7_setWatch_4 ?_
  refine cv_7_70 (cells' := 0) (slots' := 0) dX7_setWatch_5 (c_X1_numbered_s hst hs) (n1 _) ⟨by decide, by decide⟩ rfl rfl (by decide) (by decide) (Nat.le_of_ble_eq_true rfl) (fun _ _ r1 => ?_) (fun _ _ h => h.elim)
  obtain ⟨rfl, rfl⟩ := r1
  refine J_eq (st' := [.ref (ka S 17 s)]) rfl rfl rfl ?_
  refine J_astore_n (lv' := [(0, .ref (ka S 0 0)), (1, .int (nI s)), (2, .int v), (3, .ref (ka S 17 s))]) (by decide) rfl dX7_setWatch_8 ?_
  refine J_iload_n 2 rfl dX7_setWatch_9 ?_
  refine J_if_eq 34 (by decide) dX7_setWatch_10 (fun c2 => ?_) (fun c2 => ?_)
  · skip
    refine J_aload_n 3 rfl dX7_setWatch_34 ?_
    refine gf_7_235 (n17 _ (by omega)) dX7_setWatch_35 ?_
    refine J_topeq (m.1 44 s) (by exact g3) ?_
    refine J_istore (lv' := [(0, .ref (ka S 0 0)), (1, .int (nI s)), (2, .int v), (3, .ref (ka S 17 s)), (4, .int (m.1 44 s))]) (by decide) rfl dX7_setWatch_38 ?_
    refine J_aload_n 3 rfl dX7_setWatch_40 ?_
    refine J_iload_n 2 rfl dX7_setWatch_41 ?_
    refine pf_7_235 (n17 _ (by omega)) dX7_setWatch_42 ?_
    refine J_aload_n 3 rfl dX7_setWatch_45 ?_
    refine J_aload_n 0 rfl dX7_setWatch_46 ?_
    refine gf_7_171 (n0 _) dX7_setWatch_47 ?_
    refine J_topeq (m.1 30 26) (by exact hT.1) ?_
    refine pf_7_238 (n17 _ (by omega)) dX7_setWatch_50 ?_
    refine J_iload 4 rfl dX7_setWatch_53 ?_
    exact J_ireturn rfl (by first | rfl | assumption | simp [kb_nar]) dX7_setWatch_55 (⟨rfl, _, L, R, ln, qu, lg, rfl, rel_sw hR, by omega⟩) (by omega) (by omega)
  · skip
    refine J_iload_n 2 rfl dX7_setWatch_13 ?_
    refine J_iconst (v := 5) (by decide) dX7_setWatch_14 ?_
    refine J_icmp_lt 24 (by decide) dX7_setWatch_15 (fun c3 => ?_) (fun c3 => ?_)
    · exfalso
      grind
    refine J_iload_n 2 rfl dX7_setWatch_18 ?_
    refine J_bipush (v := 60) (by decide) dX7_setWatch_19 ?_
    refine J_icmp_le 34 (by decide) dX7_setWatch_21 (fun c4 => ?_) (fun c4 => ?_)
    rotate_left
    · exfalso
      grind
    refine J_aload_n 3 rfl dX7_setWatch_34 ?_
    refine gf_7_235 (n17 _ (by omega)) dX7_setWatch_35 ?_
    refine J_topeq (m.1 44 s) (by exact g3) ?_
    refine J_istore (lv' := [(0, .ref (ka S 0 0)), (1, .int (nI s)), (2, .int v), (3, .ref (ka S 17 s)), (4, .int (m.1 44 s))]) (by decide) rfl dX7_setWatch_38 ?_
    refine J_aload_n 3 rfl dX7_setWatch_40 ?_
    refine J_iload_n 2 rfl dX7_setWatch_41 ?_
    refine pf_7_235 (n17 _ (by omega)) dX7_setWatch_42 ?_
    refine J_aload_n 3 rfl dX7_setWatch_45 ?_
    refine J_aload_n 0 rfl dX7_setWatch_46 ?_
    refine gf_7_171 (n0 _) dX7_setWatch_47 ?_
    refine J_topeq (m.1 30 26) (by exact hT.1) ?_
    refine pf_7_238 (n17 _ (by omega)) dX7_setWatch_50 ?_
    refine J_iload 4 rfl dX7_setWatch_53 ?_
    exact J_ireturn rfl (by first | rfl | assumption | simp [kb_nar]) dX7_setWatch_55 (⟨rfl, _, L, R, ln, qu, lg, rfl, rel_sw hR, by omega⟩) (by omega) (by omega)

set_option maxRecDepth 20000 in
set_option maxHeartbeats 1000000 in
theorem c_X7_setWatch_y {cy : Nat → ClassId} {S : Nat → Nat → Nat} {I : kI} {L : kL} {R : kRf} {LP : List Nat} {m : Mu} {rc : Nat → Nat} {ln qu : List Nat} {lg B : Nat} {s : Nat} {v : Int32} (hR : Rel m I L R LP rc ln qu lg) (hI : Inv m B) (hB : B < 2 ^ 30) (hlg : lg < 2 ^ 30) (hs : s < mS m) (hv : ¬ (v = 0 ∨ (5 ≤ v ∧ v ≤ 60))) : Con yX7_setWatch cX7_setWatch 5 (some .int) 7 1 6 cy [.ref (ka S 0 0), .int (nI s), .int v] (wc cy S I L R LP) kNo (kTX "java/lang/IllegalArgumentException" cy S LP rc m) := by
  obtain ⟨hS, hC, hH, hL, hG, hT⟩ := hR
  have hR : Rel m I L R LP rc ln qu lg := ⟨hS, hC, hH, hL, hG, hT⟩
  have hRc := hC.2.2
  have hkk := hI.2.2.2.1
  have hh := hI.2.2.2.2.1
  have hst := hS.2.1
  have hst2 := hst.2
  have hs10 : s < 10 := by omega
  obtain ⟨g0, g1, g2⟩ := hS.2.2.2 s hs
  obtain ⟨g3, g4, g5⟩ := hS.2.2.1 s hs10
  refine Con_of (by decide +kernel) (Nat.le_of_ble_eq_true rfl) ?_
  refine J_eq (lv' := [(0, .ref (ka S 0 0)), (1, .int (nI s)), (2, .int v)]) rfl rfl rfl ?_
  refine J_aload_n 0 rfl dX7_setWatch_0 ?_
  refine gf_7_10 (n0 _) dX7_setWatch_1 ?_
  refine J_iload_n 1 rfl dX7_setWatch_4 ?_
  refine cv_7_70 (cells' := 0) (slots' := 0) dX7_setWatch_5 (c_X1_numbered_s hst hs) (n1 _) ⟨by decide, by decide⟩ rfl rfl (by decide) (by decide) (Nat.le_of_ble_eq_true rfl) (fun _ _ r1 => ?_) (fun _ _ h => h.elim)
  obtain ⟨rfl, rfl⟩ := r1
  refine J_eq (st' := [.ref (ka S 17 s)]) rfl rfl rfl ?_
  refine J_astore_n (lv' := [(0, .ref (ka S 0 0)), (1, .int (nI s)), (2, .int v), (3, .ref (ka S 17 s))]) (by decide) rfl dX7_setWatch_8 ?_
  refine J_iload_n 2 rfl dX7_setWatch_9 ?_
  refine J_if_eq 34 (by decide) dX7_setWatch_10 (fun c2 => ?_) (fun c2 => ?_)
  · exfalso
    grind
  refine J_iload_n 2 rfl dX7_setWatch_13 ?_
  refine J_iconst (v := 5) (by decide) dX7_setWatch_14 ?_
  refine J_icmp_lt 24 (by decide) dX7_setWatch_15 (fun c3 => ?_) (fun c3 => ?_)
  · skip
    exact J_throw (E := "java/lang/IllegalArgumentException") (text := "minutes neither 0 nor in range") (ik := 47) (is := 233) (ic := 51) exc_IllegalArgumentException (by decide +kernel) cl_7_47 ini_IllegalArgumentException at_7_51 fit_IllegalArgumentException (⟨rfl, I, L, R, ln, qu, lg, rfl, hR, by omega⟩) (by decide) (Nat.le_of_ble_eq_true rfl) (by decide) (by decide) dX7_setWatch_24 dX7_setWatch_27 dX7_setWatch_28 dX7_setWatch_30 dX7_setWatch_33
  · skip
    refine J_iload_n 2 rfl dX7_setWatch_18 ?_
    refine J_bipush (v := 60) (by decide) dX7_setWatch_19 ?_
    refine J_icmp_le 34 (by decide) dX7_setWatch_21 (fun c4 => ?_) (fun c4 => ?_)
    · exfalso
      grind
    exact J_throw (E := "java/lang/IllegalArgumentException") (text := "minutes neither 0 nor in range") (ik := 47) (is := 233) (ic := 51) exc_IllegalArgumentException (by decide +kernel) cl_7_47 ini_IllegalArgumentException at_7_51 fit_IllegalArgumentException (⟨rfl, I, L, R, ln, qu, lg, rfl, hR, by omega⟩) (by decide) (Nat.le_of_ble_eq_true rfl) (by decide) (by decide) dX7_setWatch_24 dX7_setWatch_27 dX7_setWatch_28 dX7_setWatch_30 dX7_setWatch_33

set_option maxRecDepth 20000 in
set_option maxHeartbeats 1000000 in
theorem c_X7_setWatch_x {cy : Nat → ClassId} {S : Nat → Nat → Nat} {I : kI} {L : kL} {R : kRf} {LP : List Nat} {m : Mu} {rc : Nat → Nat} {ln qu : List Nat} {lg B : Nat} {x v : Int32} (hR : Rel m I L R LP rc ln qu lg) (hI : Inv m B) (hB : B < 2 ^ 30) (hlg : lg < 2 ^ 30) (hx : ∀ s, s < mS m → x ≠ nI s) : Con yX7_setWatch cX7_setWatch 5 (some .int) 7 1 6 cy [.ref (ka S 0 0), .int x, .int v] (wc cy S I L R LP) kNo (kTX "java/lang/IndexOutOfBoundsException" cy S LP rc m) := by
  obtain ⟨hS, hC, hH, hL, hG, hT⟩ := hR
  have hR : Rel m I L R LP rc ln qu lg := ⟨hS, hC, hH, hL, hG, hT⟩
  have hRc := hC.2.2
  have hkk := hI.2.2.2.1
  have hh := hI.2.2.2.2.1
  have hst := hS.2.1
  have hst2 := hst.2
  refine Con_of (by decide +kernel) (Nat.le_of_ble_eq_true rfl) ?_
  refine J_eq (lv' := [(0, .ref (ka S 0 0)), (1, .int x), (2, .int v)]) rfl rfl rfl ?_
  refine J_aload_n 0 rfl dX7_setWatch_0 ?_
  refine gf_7_10 (n0 _) dX7_setWatch_1 ?_
  refine J_iload_n 1 rfl dX7_setWatch_4 ?_
  exact cv_7_70 (cells' := 1) (slots' := 6) dX7_setWatch_5 (c_X1_numbered_x hst hx) (n1 _) ⟨by decide, by decide⟩ rfl rfl (by decide) (by decide) (Nat.le_of_ble_eq_true rfl) (fun _ _ h => h.elim) (fun E9 w9 h9 => by obtain ⟨rfl, rfl⟩ := h9; exact ⟨rfl, I, L, R, ln, qu, lg, rfl, hR, by omega⟩)

set_option maxRecDepth 20000 in
set_option maxHeartbeats 1000000 in
theorem c_X7_report_s {cy : Nat → ClassId} {S : Nat → Nat → Nat} {I : kI} {L : kL} {R : kRf} {LP : List Nat} {m : Mu} {rc : Nat → Nat} {ln qu : List Nat} {lg B : Nat} {s : Nat} (hR : Rel m I L R LP rc ln qu lg) (hI : Inv m B) (hB : B < 2 ^ 30) (hlg : lg < 2 ^ 30) (hs : s < mS m) (ho : m.1 43 s = 0) (hw : 0 < m.1 44 s) : Con yX7_report cX7_report 4 (some .int) 7 0 0 cy [.ref (ka S 0 0), .int (nI s)] (wc cy S I L R LP) (fun r w' => r = some (.int (m.1 30 26 - m.1 45 s)) ∧ RelX cy S LP rc (ms m 45 s (m.1 30 26)) w') kF := by
  obtain ⟨hS, hC, hH, hL, hG, hT⟩ := hR
  have hR : Rel m I L R LP rc ln qu lg := ⟨hS, hC, hH, hL, hG, hT⟩
  have hRc := hC.2.2
  have hkk := hI.2.2.2.1
  have hh := hI.2.2.2.2.1
  have hst := hS.2.1
  have hst2 := hst.2
  have hs10 : s < 10 := by omega
  obtain ⟨g0, g1, g2⟩ := hS.2.2.2 s hs
  obtain ⟨g3, g4, g5⟩ := hS.2.2.1 s hs10
  refine Con_of (by decide +kernel) (Nat.le_of_ble_eq_true rfl) ?_
  refine J_eq (lv' := [(0, .ref (ka S 0 0)), (1, .int (nI s))]) rfl rfl rfl ?_
  refine J_aload_n 0 rfl dX7_report_0 ?_
  refine gf_7_10 (n0 _) dX7_report_1 ?_
  refine J_iload_n 1 rfl dX7_report_4 ?_
  refine cv_7_70 (cells' := 0) (slots' := 0) dX7_report_5 (c_X1_numbered_s hst hs) (n1 _) ⟨by decide, by decide⟩ rfl rfl (by decide) (by decide) (Nat.le_of_ble_eq_true rfl) (fun _ _ r1 => ?_) (fun _ _ h => h.elim)
  obtain ⟨rfl, rfl⟩ := r1
  refine J_eq (st' := [.ref (ka S 17 s)]) rfl rfl rfl ?_
  refine J_astore_n (lv' := [(0, .ref (ka S 0 0)), (1, .int (nI s)), (2, .ref (ka S 17 s))]) (by decide) rfl dX7_report_8 ?_
  refine J_aload_n 2 rfl dX7_report_9 ?_
  refine gf_7_82 (n17 _ (by omega)) dX7_report_10 ?_
  refine J_topeq 1 (by rw [g2, if_pos ho]) ?_
  refine J_if_eq 23 (by decide) dX7_report_13 (fun c2 => ?_) (fun c2 => ?_)
  · exact absurd c2 (by decide)
  refine J_aload_n 2 rfl dX7_report_16 ?_
  refine cv_7_241 (cells' := 0) (slots' := 0) dX7_report_17 (c_X6_hasWatch hs10) (n17 _ (by omega)) ⟨by decide, by decide⟩ rfl rfl (by decide) (by decide) (Nat.le_of_ble_eq_true rfl) (fun _ _ r3 => ?_) (fun _ _ h => h.elim)
  obtain ⟨rfl, rfl⟩ := r3
  refine J_eq (st' := [.int (kb (watF I s))]) rfl rfl rfl ?_
  refine J_topeq 1 (by unfold watF; rw [g3, decide_eq_true hw]; rfl) ?_
  refine J_if_ne 33 (by decide) dX7_report_20 (fun c4 => ?_) (fun c4 => ?_)
  rotate_left
  · exact absurd c4 (by decide)
  refine J_aload_n 0 rfl dX7_report_33 ?_
  refine gf_7_171 (n0 _) dX7_report_34 ?_
  refine J_topeq (m.1 30 26) (by exact hT.1) ?_
  refine J_aload_n 2 rfl dX7_report_37 ?_
  refine gf_7_238 (n17 _ (by omega)) dX7_report_38 ?_
  refine J_topeq (m.1 45 s) (by exact g4) ?_
  refine J_isub dX7_report_41 ?_
  refine J_istore_n (lv' := [(0, .ref (ka S 0 0)), (1, .int (nI s)), (2, .ref (ka S 17 s)), (3, .int ((m.1 30 26) - (m.1 45 s)))]) (by decide) rfl dX7_report_42 ?_
  refine J_aload_n 2 rfl dX7_report_43 ?_
  refine J_aload_n 0 rfl dX7_report_44 ?_
  refine gf_7_171 (n0 _) dX7_report_45 ?_
  refine J_topeq (m.1 30 26) (by exact hT.1) ?_
  refine pf_7_238 (n17 _ (by omega)) dX7_report_48 ?_
  refine J_iload_n 3 rfl dX7_report_51 ?_
  exact J_ireturn rfl (by first | rfl | assumption | simp [kb_nar]) dX7_report_52 (⟨rfl, _, L, R, ln, qu, lg, rfl, rel_rp hR, by omega⟩) (by omega) (by omega)

set_option maxRecDepth 20000 in
set_option maxHeartbeats 1000000 in
theorem c_X7_report_y {cy : Nat → ClassId} {S : Nat → Nat → Nat} {I : kI} {L : kL} {R : kRf} {LP : List Nat} {m : Mu} {rc : Nat → Nat} {ln qu : List Nat} {lg B : Nat} {s : Nat} (hR : Rel m I L R LP rc ln qu lg) (hI : Inv m B) (hB : B < 2 ^ 30) (hlg : lg < 2 ^ 30) (hs : s < mS m) (ho : ¬ m.1 43 s = 0) : Con yX7_report cX7_report 4 (some .int) 7 1 6 cy [.ref (ka S 0 0), .int (nI s)] (wc cy S I L R LP) kNo (kTX "java/lang/IllegalStateException" cy S LP rc m) := by
  obtain ⟨hS, hC, hH, hL, hG, hT⟩ := hR
  have hR : Rel m I L R LP rc ln qu lg := ⟨hS, hC, hH, hL, hG, hT⟩
  have hRc := hC.2.2
  have hkk := hI.2.2.2.1
  have hh := hI.2.2.2.2.1
  have hst := hS.2.1
  have hst2 := hst.2
  have hs10 : s < 10 := by omega
  obtain ⟨g0, g1, g2⟩ := hS.2.2.2 s hs
  obtain ⟨g3, g4, g5⟩ := hS.2.2.1 s hs10
  refine Con_of (by decide +kernel) (Nat.le_of_ble_eq_true rfl) ?_
  refine J_eq (lv' := [(0, .ref (ka S 0 0)), (1, .int (nI s))]) rfl rfl rfl ?_
  refine J_aload_n 0 rfl dX7_report_0 ?_
  refine gf_7_10 (n0 _) dX7_report_1 ?_
  refine J_iload_n 1 rfl dX7_report_4 ?_
  refine cv_7_70 (cells' := 0) (slots' := 0) dX7_report_5 (c_X1_numbered_s hst hs) (n1 _) ⟨by decide, by decide⟩ rfl rfl (by decide) (by decide) (Nat.le_of_ble_eq_true rfl) (fun _ _ r1 => ?_) (fun _ _ h => h.elim)
  obtain ⟨rfl, rfl⟩ := r1
  refine J_eq (st' := [.ref (ka S 17 s)]) rfl rfl rfl ?_
  refine J_astore_n (lv' := [(0, .ref (ka S 0 0)), (1, .int (nI s)), (2, .ref (ka S 17 s))]) (by decide) rfl dX7_report_8 ?_
  refine J_aload_n 2 rfl dX7_report_9 ?_
  refine gf_7_82 (n17 _ (by omega)) dX7_report_10 ?_
  refine J_topeq 0 (by rw [g2, if_neg ho]) ?_
  refine J_if_eq 23 (by decide) dX7_report_13 (fun c2 => ?_) (fun c2 => ?_)
  rotate_left
  · exact absurd (by decide) c2
  exact J_throw (E := "java/lang/IllegalStateException") (text := "the station is off or has no watch") (ik := 58) (is := 244) (ic := 62) exc_IllegalStateException (by decide +kernel) cl_7_58 ini_IllegalStateException at_7_62 fit_IllegalStateException (⟨rfl, I, L, R, ln, qu, lg, rfl, hR, by omega⟩) (by decide) (Nat.le_of_ble_eq_true rfl) (by decide) (by decide) dX7_report_23 dX7_report_26 dX7_report_27 dX7_report_29 dX7_report_32

set_option maxRecDepth 20000 in
set_option maxHeartbeats 1000000 in
theorem c_X7_report_z {cy : Nat → ClassId} {S : Nat → Nat → Nat} {I : kI} {L : kL} {R : kRf} {LP : List Nat} {m : Mu} {rc : Nat → Nat} {ln qu : List Nat} {lg B : Nat} {s : Nat} (hR : Rel m I L R LP rc ln qu lg) (hI : Inv m B) (hB : B < 2 ^ 30) (hlg : lg < 2 ^ 30) (hs : s < mS m) (ho : m.1 43 s = 0) (hw : ¬ 0 < m.1 44 s) : Con yX7_report cX7_report 4 (some .int) 7 1 6 cy [.ref (ka S 0 0), .int (nI s)] (wc cy S I L R LP) kNo (kTX "java/lang/IllegalStateException" cy S LP rc m) := by
  obtain ⟨hS, hC, hH, hL, hG, hT⟩ := hR
  have hR : Rel m I L R LP rc ln qu lg := ⟨hS, hC, hH, hL, hG, hT⟩
  have hRc := hC.2.2
  have hkk := hI.2.2.2.1
  have hh := hI.2.2.2.2.1
  have hst := hS.2.1
  have hst2 := hst.2
  have hs10 : s < 10 := by omega
  obtain ⟨g0, g1, g2⟩ := hS.2.2.2 s hs
  obtain ⟨g3, g4, g5⟩ := hS.2.2.1 s hs10
  refine Con_of (by decide +kernel) (Nat.le_of_ble_eq_true rfl) ?_
  refine J_eq (lv' := [(0, .ref (ka S 0 0)), (1, .int (nI s))]) rfl rfl rfl ?_
  refine J_aload_n 0 rfl dX7_report_0 ?_
  refine gf_7_10 (n0 _) dX7_report_1 ?_
  refine J_iload_n 1 rfl dX7_report_4 ?_
  refine cv_7_70 (cells' := 0) (slots' := 0) dX7_report_5 (c_X1_numbered_s hst hs) (n1 _) ⟨by decide, by decide⟩ rfl rfl (by decide) (by decide) (Nat.le_of_ble_eq_true rfl) (fun _ _ r1 => ?_) (fun _ _ h => h.elim)
  obtain ⟨rfl, rfl⟩ := r1
  refine J_eq (st' := [.ref (ka S 17 s)]) rfl rfl rfl ?_
  refine J_astore_n (lv' := [(0, .ref (ka S 0 0)), (1, .int (nI s)), (2, .ref (ka S 17 s))]) (by decide) rfl dX7_report_8 ?_
  refine J_aload_n 2 rfl dX7_report_9 ?_
  refine gf_7_82 (n17 _ (by omega)) dX7_report_10 ?_
  refine J_topeq 1 (by rw [g2, if_pos ho]) ?_
  refine J_if_eq 23 (by decide) dX7_report_13 (fun c2 => ?_) (fun c2 => ?_)
  · exact absurd c2 (by decide)
  refine J_aload_n 2 rfl dX7_report_16 ?_
  refine cv_7_241 (cells' := 0) (slots' := 0) dX7_report_17 (c_X6_hasWatch hs10) (n17 _ (by omega)) ⟨by decide, by decide⟩ rfl rfl (by decide) (by decide) (Nat.le_of_ble_eq_true rfl) (fun _ _ r3 => ?_) (fun _ _ h => h.elim)
  obtain ⟨rfl, rfl⟩ := r3
  refine J_eq (st' := [.int (kb (watF I s))]) rfl rfl rfl ?_
  refine J_topeq 0 (by unfold watF; rw [g3, decide_eq_false hw]; rfl) ?_
  refine J_if_ne 33 (by decide) dX7_report_20 (fun c4 => ?_) (fun c4 => ?_)
  · exact absurd (by decide) c4
  exact J_throw (E := "java/lang/IllegalStateException") (text := "the station is off or has no watch") (ik := 58) (is := 244) (ic := 62) exc_IllegalStateException (by decide +kernel) cl_7_58 ini_IllegalStateException at_7_62 fit_IllegalStateException (⟨rfl, I, L, R, ln, qu, lg, rfl, hR, by omega⟩) (by decide) (Nat.le_of_ble_eq_true rfl) (by decide) (by decide) dX7_report_23 dX7_report_26 dX7_report_27 dX7_report_29 dX7_report_32

set_option maxRecDepth 20000 in
set_option maxHeartbeats 1000000 in
theorem c_X7_report_x {cy : Nat → ClassId} {S : Nat → Nat → Nat} {I : kI} {L : kL} {R : kRf} {LP : List Nat} {m : Mu} {rc : Nat → Nat} {ln qu : List Nat} {lg B : Nat} {x : Int32} (hR : Rel m I L R LP rc ln qu lg) (hI : Inv m B) (hB : B < 2 ^ 30) (hlg : lg < 2 ^ 30) (hx : ∀ s, s < mS m → x ≠ nI s) : Con yX7_report cX7_report 4 (some .int) 7 1 6 cy [.ref (ka S 0 0), .int x] (wc cy S I L R LP) kNo (kTX "java/lang/IndexOutOfBoundsException" cy S LP rc m) := by
  obtain ⟨hS, hC, hH, hL, hG, hT⟩ := hR
  have hR : Rel m I L R LP rc ln qu lg := ⟨hS, hC, hH, hL, hG, hT⟩
  have hRc := hC.2.2
  have hkk := hI.2.2.2.1
  have hh := hI.2.2.2.2.1
  have hst := hS.2.1
  have hst2 := hst.2
  refine Con_of (by decide +kernel) (Nat.le_of_ble_eq_true rfl) ?_
  refine J_eq (lv' := [(0, .ref (ka S 0 0)), (1, .int x)]) rfl rfl rfl ?_
  refine J_aload_n 0 rfl dX7_report_0 ?_
  refine gf_7_10 (n0 _) dX7_report_1 ?_
  refine J_iload_n 1 rfl dX7_report_4 ?_
  exact cv_7_70 (cells' := 1) (slots' := 6) dX7_report_5 (c_X1_numbered_x hst hx) (n1 _) ⟨by decide, by decide⟩ rfl rfl (by decide) (by decide) (Nat.le_of_ble_eq_true rfl) (fun _ _ h => h.elim) (fun E9 w9 h9 => by obtain ⟨rfl, rfl⟩ := h9; exact ⟨rfl, I, L, R, ln, qu, lg, rfl, hR, by omega⟩)

set_option maxRecDepth 20000 in
set_option maxHeartbeats 1000000 in
theorem c_X7_sinceReport_s {cy : Nat → ClassId} {S : Nat → Nat → Nat} {I : kI} {L : kL} {R : kRf} {LP : List Nat} {m : Mu} {rc : Nat → Nat} {ln qu : List Nat} {lg B : Nat} {s : Nat} (hR : Rel m I L R LP rc ln qu lg) (hI : Inv m B) (hB : B < 2 ^ 30) (hlg : lg < 2 ^ 30) (hs : s < mS m) (hw : 0 < m.1 44 s) : Con yX7_sinceReport cX7_sinceReport 3 (some .int) 7 0 0 cy [.ref (ka S 0 0), .int (nI s)] (wc cy S I L R LP) (fun r w' => r = some (.int (m.1 30 26 - m.1 45 s)) ∧ RelX cy S LP rc m w') kF := by
  obtain ⟨hS, hC, hH, hL, hG, hT⟩ := hR
  have hR : Rel m I L R LP rc ln qu lg := ⟨hS, hC, hH, hL, hG, hT⟩
  have hRc := hC.2.2
  have hkk := hI.2.2.2.1
  have hh := hI.2.2.2.2.1
  have hst := hS.2.1
  have hst2 := hst.2
  have hs10 : s < 10 := by omega
  obtain ⟨g0, g1, g2⟩ := hS.2.2.2 s hs
  obtain ⟨g3, g4, g5⟩ := hS.2.2.1 s hs10
  refine Con_of (by decide +kernel) (Nat.le_of_ble_eq_true rfl) ?_
  refine J_eq (lv' := [(0, .ref (ka S 0 0)), (1, .int (nI s))]) rfl rfl rfl ?_
  refine J_aload_n 0 rfl dX7_sinceReport_0 ?_
  refine gf_7_10 (n0 _) dX7_sinceReport_1 ?_
  refine J_iload_n 1 rfl dX7_sinceReport_4 ?_
  refine cv_7_70 (cells' := 0) (slots' := 0) dX7_sinceReport_5 (c_X1_numbered_s hst hs) (n1 _) ⟨by decide, by decide⟩ rfl rfl (by decide) (by decide) (Nat.le_of_ble_eq_true rfl) (fun _ _ r1 => ?_) (fun _ _ h => h.elim)
  obtain ⟨rfl, rfl⟩ := r1
  refine J_eq (st' := [.ref (ka S 17 s)]) rfl rfl rfl ?_
  refine J_astore_n (lv' := [(0, .ref (ka S 0 0)), (1, .int (nI s)), (2, .ref (ka S 17 s))]) (by decide) rfl dX7_sinceReport_8 ?_
  refine J_aload_n 2 rfl dX7_sinceReport_9 ?_
  refine cv_7_241 (cells' := 0) (slots' := 0) dX7_sinceReport_10 (c_X6_hasWatch hs10) (n17 _ (by omega)) ⟨by decide, by decide⟩ rfl rfl (by decide) (by decide) (Nat.le_of_ble_eq_true rfl) (fun _ _ r2 => ?_) (fun _ _ h => h.elim)
  obtain ⟨rfl, rfl⟩ := r2
  refine J_eq (st' := [.int (kb (watF I s))]) rfl rfl rfl ?_
  refine J_topeq 1 (by unfold watF; rw [g3, decide_eq_true hw]; rfl) ?_
  refine J_if_ne 26 (by decide) dX7_sinceReport_13 (fun c3 => ?_) (fun c3 => ?_)
  rotate_left
  · exact absurd c3 (by decide)
  refine J_aload_n 0 rfl dX7_sinceReport_26 ?_
  refine gf_7_171 (n0 _) dX7_sinceReport_27 ?_
  refine J_topeq (m.1 30 26) (by exact hT.1) ?_
  refine J_aload_n 2 rfl dX7_sinceReport_30 ?_
  refine gf_7_238 (n17 _ (by omega)) dX7_sinceReport_31 ?_
  refine J_topeq (m.1 45 s) (by exact g4) ?_
  refine J_isub dX7_sinceReport_34 ?_
  exact J_ireturn rfl (by first | rfl | assumption | simp [kb_nar]) dX7_sinceReport_35 (⟨rfl, I, L, R, ln, qu, lg, rfl, hR, by omega⟩) (by omega) (by omega)

set_option maxRecDepth 20000 in
set_option maxHeartbeats 1000000 in
theorem c_X7_sinceReport_y {cy : Nat → ClassId} {S : Nat → Nat → Nat} {I : kI} {L : kL} {R : kRf} {LP : List Nat} {m : Mu} {rc : Nat → Nat} {ln qu : List Nat} {lg B : Nat} {s : Nat} (hR : Rel m I L R LP rc ln qu lg) (hI : Inv m B) (hB : B < 2 ^ 30) (hlg : lg < 2 ^ 30) (hs : s < mS m) (hw : ¬ 0 < m.1 44 s) : Con yX7_sinceReport cX7_sinceReport 3 (some .int) 7 1 6 cy [.ref (ka S 0 0), .int (nI s)] (wc cy S I L R LP) kNo (kTX "java/lang/IllegalStateException" cy S LP rc m) := by
  obtain ⟨hS, hC, hH, hL, hG, hT⟩ := hR
  have hR : Rel m I L R LP rc ln qu lg := ⟨hS, hC, hH, hL, hG, hT⟩
  have hRc := hC.2.2
  have hkk := hI.2.2.2.1
  have hh := hI.2.2.2.2.1
  have hst := hS.2.1
  have hst2 := hst.2
  have hs10 : s < 10 := by omega
  obtain ⟨g0, g1, g2⟩ := hS.2.2.2 s hs
  obtain ⟨g3, g4, g5⟩ := hS.2.2.1 s hs10
  refine Con_of (by decide +kernel) (Nat.le_of_ble_eq_true rfl) ?_
  refine J_eq (lv' := [(0, .ref (ka S 0 0)), (1, .int (nI s))]) rfl rfl rfl ?_
  refine J_aload_n 0 rfl dX7_sinceReport_0 ?_
  refine gf_7_10 (n0 _) dX7_sinceReport_1 ?_
  refine J_iload_n 1 rfl dX7_sinceReport_4 ?_
  refine cv_7_70 (cells' := 0) (slots' := 0) dX7_sinceReport_5 (c_X1_numbered_s hst hs) (n1 _) ⟨by decide, by decide⟩ rfl rfl (by decide) (by decide) (Nat.le_of_ble_eq_true rfl) (fun _ _ r1 => ?_) (fun _ _ h => h.elim)
  obtain ⟨rfl, rfl⟩ := r1
  refine J_eq (st' := [.ref (ka S 17 s)]) rfl rfl rfl ?_
  refine J_astore_n (lv' := [(0, .ref (ka S 0 0)), (1, .int (nI s)), (2, .ref (ka S 17 s))]) (by decide) rfl dX7_sinceReport_8 ?_
  refine J_aload_n 2 rfl dX7_sinceReport_9 ?_
  refine cv_7_241 (cells' := 0) (slots' := 0) dX7_sinceReport_10 (c_X6_hasWatch hs10) (n17 _ (by omega)) ⟨by decide, by decide⟩ rfl rfl (by decide) (by decide) (Nat.le_of_ble_eq_true rfl) (fun _ _ r2 => ?_) (fun _ _ h => h.elim)
  obtain ⟨rfl, rfl⟩ := r2
  refine J_eq (st' := [.int (kb (watF I s))]) rfl rfl rfl ?_
  refine J_topeq 0 (by unfold watF; rw [g3, decide_eq_false hw]; rfl) ?_
  refine J_if_ne 26 (by decide) dX7_sinceReport_13 (fun c3 => ?_) (fun c3 => ?_)
  · exact absurd (by decide) c3
  exact J_throw (E := "java/lang/IllegalStateException") (text := "the station has no watch") (ik := 58) (is := 246) (ic := 62) exc_IllegalStateException (by decide +kernel) cl_7_58 ini_IllegalStateException at_7_62 fit_IllegalStateException (⟨rfl, I, L, R, ln, qu, lg, rfl, hR, by omega⟩) (by decide) (Nat.le_of_ble_eq_true rfl) (by decide) (by decide) dX7_sinceReport_16 dX7_sinceReport_19 dX7_sinceReport_20 dX7_sinceReport_22 dX7_sinceReport_25

set_option maxRecDepth 20000 in
set_option maxHeartbeats 1000000 in
theorem c_X7_sinceReport_x {cy : Nat → ClassId} {S : Nat → Nat → Nat} {I : kI} {L : kL} {R : kRf} {LP : List Nat} {m : Mu} {rc : Nat → Nat} {ln qu : List Nat} {lg B : Nat} {x : Int32} (hR : Rel m I L R LP rc ln qu lg) (hI : Inv m B) (hB : B < 2 ^ 30) (hlg : lg < 2 ^ 30) (hx : ∀ s, s < mS m → x ≠ nI s) : Con yX7_sinceReport cX7_sinceReport 3 (some .int) 7 1 6 cy [.ref (ka S 0 0), .int x] (wc cy S I L R LP) kNo (kTX "java/lang/IndexOutOfBoundsException" cy S LP rc m) := by
  obtain ⟨hS, hC, hH, hL, hG, hT⟩ := hR
  have hR : Rel m I L R LP rc ln qu lg := ⟨hS, hC, hH, hL, hG, hT⟩
  have hRc := hC.2.2
  have hkk := hI.2.2.2.1
  have hh := hI.2.2.2.2.1
  have hst := hS.2.1
  have hst2 := hst.2
  refine Con_of (by decide +kernel) (Nat.le_of_ble_eq_true rfl) ?_
  refine J_eq (lv' := [(0, .ref (ka S 0 0)), (1, .int x)]) rfl rfl rfl ?_
  refine J_aload_n 0 rfl dX7_sinceReport_0 ?_
  refine gf_7_10 (n0 _) dX7_sinceReport_1 ?_
  refine J_iload_n 1 rfl dX7_sinceReport_4 ?_
  exact cv_7_70 (cells' := 1) (slots' := 6) dX7_sinceReport_5 (c_X1_numbered_x hst hx) (n1 _) ⟨by decide, by decide⟩ rfl rfl (by decide) (by decide) (Nat.le_of_ble_eq_true rfl) (fun _ _ h => h.elim) (fun E9 w9 h9 => by obtain ⟨rfl, rfl⟩ := h9; exact ⟨rfl, I, L, R, ln, qu, lg, rfl, hR, by omega⟩)

set_option maxRecDepth 20000 in
set_option maxHeartbeats 1000000 in
theorem c_X7_logTime_s {cy : Nat → ClassId} {S : Nat → Nat → Nat} {I : kI} {L : kL} {R : kRf} {LP : List Nat} {m : Mu} {rc : Nat → Nat} {ln qu : List Nat} {lg B : Nat} {j : Nat} (hR : Rel m I L R LP rc ln qu lg) (hI : Inv m B) (hB : B < 2 ^ 30) (hlg : lg < 2 ^ 30) (hj : j < min lg 60) : Con yX7_logTime cX7_logTime 2 (some .int) 7 0 0 cy [.ref (ka S 0 0), .int (nI j)] (wc cy S I L R LP) (fun r w' => r = some (.int (m.1 68 ((lg - 1 - j) % 60))) ∧ RelX cy S LP rc m w') kF := by
  obtain ⟨hS, hC, hH, hL, hG, hT⟩ := hR
  have hR : Rel m I L R LP rc ln qu lg := ⟨hS, hC, hH, hL, hG, hT⟩
  have hRc := hC.2.2
  have hkk := hI.2.2.2.1
  have hh := hI.2.2.2.2.1
  have hl60 := Nat.min_le_right lg 60
  have hl61 : lg % 60 < 60 := Nat.mod_lt _ (by decide)
  have hse := slot_eq hj
  have hsl : (lg - 1 - j) % 60 < 60 := Nat.mod_lt _ (by decide)
  have hgg := hG.2.2.2.2 _ hsl
  refine Con_of (by decide +kernel) (Nat.le_of_ble_eq_true rfl) ?_
  refine J_eq (lv' := [(0, .ref (ka S 0 0)), (1, .int (nI j))]) rfl rfl rfl ?_
  refine J_aload_n 0 rfl dX7_logTime_0 ?_
  refine gf_7_33 (n0 _) dX7_logTime_1 ?_
  refine J_iload_n 1 rfl dX7_logTime_4 ?_
  refine cv_7_254 (cells' := 0) (slots' := 0) dX7_logTime_5 (c_X4_entry_s hG.2.2.1 hG.2.2.2.1 hl61 hl60 hj) (n4 _) ⟨by decide, by decide⟩ rfl rfl (by decide) (by decide) (Nat.le_of_ble_eq_true rfl) (fun _ _ r1 => ?_) (fun _ _ h => h.elim)
  obtain ⟨rfl, rfl⟩ := r1
  refine J_eq (st' := [.ref (ka S 18 (slotF (lg % 60) j))]) rfl rfl rfl ?_
  refine gf_7_258 (n18 _ (by first | omega | exact slotF_lt (by omega) (by omega))) dX7_logTime_8 ?_
  refine J_topeq (m.1 68 ((lg - 1 - j) % 60)) (by rw [hse]; exact hgg.1) ?_
  exact J_ireturn rfl (by first | rfl | assumption | simp [kb_nar]) dX7_logTime_11 (⟨rfl, I, L, R, ln, qu, lg, rfl, hR, by omega⟩) (by omega) (by omega)

set_option maxRecDepth 20000 in
set_option maxHeartbeats 1000000 in
theorem c_X7_logTime_x {cy : Nat → ClassId} {S : Nat → Nat → Nat} {I : kI} {L : kL} {R : kRf} {LP : List Nat} {m : Mu} {rc : Nat → Nat} {ln qu : List Nat} {lg B : Nat} {x : Int32} (hR : Rel m I L R LP rc ln qu lg) (hI : Inv m B) (hB : B < 2 ^ 30) (hlg : lg < 2 ^ 30) (hx : ∀ s, s < min lg 60 → x ≠ nI s) : Con yX7_logTime cX7_logTime 2 (some .int) 7 1 6 cy [.ref (ka S 0 0), .int x] (wc cy S I L R LP) kNo (kTX "java/util/NoSuchElementException" cy S LP rc m) := by
  obtain ⟨hS, hC, hH, hL, hG, hT⟩ := hR
  have hR : Rel m I L R LP rc ln qu lg := ⟨hS, hC, hH, hL, hG, hT⟩
  have hRc := hC.2.2
  have hkk := hI.2.2.2.1
  have hh := hI.2.2.2.2.1
  have hl60 := Nat.min_le_right lg 60
  have hl61 : lg % 60 < 60 := Nat.mod_lt _ (by decide)
  refine Con_of (by decide +kernel) (Nat.le_of_ble_eq_true rfl) ?_
  refine J_eq (lv' := [(0, .ref (ka S 0 0)), (1, .int x)]) rfl rfl rfl ?_
  refine J_aload_n 0 rfl dX7_logTime_0 ?_
  refine gf_7_33 (n0 _) dX7_logTime_1 ?_
  refine J_iload_n 1 rfl dX7_logTime_4 ?_
  exact cv_7_254 (cells' := 1) (slots' := 6) dX7_logTime_5 (c_X4_entry_x hG.2.2.1 hG.2.2.2.1 hl61 hl60 hx) (n4 _) ⟨by decide, by decide⟩ rfl rfl (by decide) (by decide) (Nat.le_of_ble_eq_true rfl) (fun _ _ h => h.elim) (fun E9 w9 h9 => by obtain ⟨rfl, rfl⟩ := h9; exact ⟨rfl, I, L, R, ln, qu, lg, rfl, hR, by omega⟩)

set_option maxRecDepth 20000 in
set_option maxHeartbeats 1000000 in
theorem c_X7_logKind_s {cy : Nat → ClassId} {S : Nat → Nat → Nat} {I : kI} {L : kL} {R : kRf} {LP : List Nat} {m : Mu} {rc : Nat → Nat} {ln qu : List Nat} {lg B : Nat} {j : Nat} (hR : Rel m I L R LP rc ln qu lg) (hI : Inv m B) (hB : B < 2 ^ 30) (hlg : lg < 2 ^ 30) (hj : j < min lg 60) : Con yX7_logKind cX7_logKind 2 (some .char) 7 0 0 cy [.ref (ka S 0 0), .int (nI j)] (wc cy S I L R LP) (fun r w' => r = some (.int (m.1 69 ((lg - 1 - j) % 60))) ∧ RelX cy S LP rc m w') kF := by
  obtain ⟨hS, hC, hH, hL, hG, hT⟩ := hR
  have hR : Rel m I L R LP rc ln qu lg := ⟨hS, hC, hH, hL, hG, hT⟩
  have hRc := hC.2.2
  have hkk := hI.2.2.2.1
  have hh := hI.2.2.2.2.1
  have hl60 := Nat.min_le_right lg 60
  have hl61 : lg % 60 < 60 := Nat.mod_lt _ (by decide)
  have hse := slot_eq hj
  have hsl : (lg - 1 - j) % 60 < 60 := Nat.mod_lt _ (by decide)
  have hgg := hG.2.2.2.2 _ hsl
  have hnr := hgg.2.2.2
  refine Con_of (by decide +kernel) (Nat.le_of_ble_eq_true rfl) ?_
  refine J_eq (lv' := [(0, .ref (ka S 0 0)), (1, .int (nI j))]) rfl rfl rfl ?_
  refine J_aload_n 0 rfl dX7_logKind_0 ?_
  refine gf_7_33 (n0 _) dX7_logKind_1 ?_
  refine J_iload_n 1 rfl dX7_logKind_4 ?_
  refine cv_7_254 (cells' := 0) (slots' := 0) dX7_logKind_5 (c_X4_entry_s hG.2.2.1 hG.2.2.2.1 hl61 hl60 hj) (n4 _) ⟨by decide, by decide⟩ rfl rfl (by decide) (by decide) (Nat.le_of_ble_eq_true rfl) (fun _ _ r1 => ?_) (fun _ _ h => h.elim)
  obtain ⟨rfl, rfl⟩ := r1
  refine J_eq (st' := [.ref (ka S 18 (slotF (lg % 60) j))]) rfl rfl rfl ?_
  refine gf_7_263 (n18 _ (by first | omega | exact slotF_lt (by omega) (by omega))) dX7_logKind_8 ?_
  refine J_topeq (m.1 69 ((lg - 1 - j) % 60)) (by rw [hse]; exact hgg.2.1) ?_
  exact J_ireturn rfl (by first | rfl | assumption | simp [kb_nar]) dX7_logKind_11 (⟨rfl, I, L, R, ln, qu, lg, rfl, hR, by omega⟩) (by omega) (by omega)

set_option maxRecDepth 20000 in
set_option maxHeartbeats 1000000 in
theorem c_X7_logKind_x {cy : Nat → ClassId} {S : Nat → Nat → Nat} {I : kI} {L : kL} {R : kRf} {LP : List Nat} {m : Mu} {rc : Nat → Nat} {ln qu : List Nat} {lg B : Nat} {x : Int32} (hR : Rel m I L R LP rc ln qu lg) (hI : Inv m B) (hB : B < 2 ^ 30) (hlg : lg < 2 ^ 30) (hx : ∀ s, s < min lg 60 → x ≠ nI s) : Con yX7_logKind cX7_logKind 2 (some .char) 7 1 6 cy [.ref (ka S 0 0), .int x] (wc cy S I L R LP) kNo (kTX "java/util/NoSuchElementException" cy S LP rc m) := by
  obtain ⟨hS, hC, hH, hL, hG, hT⟩ := hR
  have hR : Rel m I L R LP rc ln qu lg := ⟨hS, hC, hH, hL, hG, hT⟩
  have hRc := hC.2.2
  have hkk := hI.2.2.2.1
  have hh := hI.2.2.2.2.1
  have hl60 := Nat.min_le_right lg 60
  have hl61 : lg % 60 < 60 := Nat.mod_lt _ (by decide)
  refine Con_of (by decide +kernel) (Nat.le_of_ble_eq_true rfl) ?_
  refine J_eq (lv' := [(0, .ref (ka S 0 0)), (1, .int x)]) rfl rfl rfl ?_
  refine J_aload_n 0 rfl dX7_logKind_0 ?_
  refine gf_7_33 (n0 _) dX7_logKind_1 ?_
  refine J_iload_n 1 rfl dX7_logKind_4 ?_
  exact cv_7_254 (cells' := 1) (slots' := 6) dX7_logKind_5 (c_X4_entry_x hG.2.2.1 hG.2.2.2.1 hl61 hl60 hx) (n4 _) ⟨by decide, by decide⟩ rfl rfl (by decide) (by decide) (Nat.le_of_ble_eq_true rfl) (fun _ _ h => h.elim) (fun E9 w9 h9 => by obtain ⟨rfl, rfl⟩ := h9; exact ⟨rfl, I, L, R, ln, qu, lg, rfl, hR, by omega⟩)

set_option maxRecDepth 20000 in
set_option maxHeartbeats 1000000 in
theorem c_X7_logNumber_s {cy : Nat → ClassId} {S : Nat → Nat → Nat} {I : kI} {L : kL} {R : kRf} {LP : List Nat} {m : Mu} {rc : Nat → Nat} {ln qu : List Nat} {lg B : Nat} {j : Nat} (hR : Rel m I L R LP rc ln qu lg) (hI : Inv m B) (hB : B < 2 ^ 30) (hlg : lg < 2 ^ 30) (hj : j < min lg 60) : Con yX7_logNumber cX7_logNumber 2 (some .int) 7 0 0 cy [.ref (ka S 0 0), .int (nI j)] (wc cy S I L R LP) (fun r w' => r = some (.int (m.1 70 ((lg - 1 - j) % 60))) ∧ RelX cy S LP rc m w') kF := by
  obtain ⟨hS, hC, hH, hL, hG, hT⟩ := hR
  have hR : Rel m I L R LP rc ln qu lg := ⟨hS, hC, hH, hL, hG, hT⟩
  have hRc := hC.2.2
  have hkk := hI.2.2.2.1
  have hh := hI.2.2.2.2.1
  have hl60 := Nat.min_le_right lg 60
  have hl61 : lg % 60 < 60 := Nat.mod_lt _ (by decide)
  have hse := slot_eq hj
  have hsl : (lg - 1 - j) % 60 < 60 := Nat.mod_lt _ (by decide)
  have hgg := hG.2.2.2.2 _ hsl
  refine Con_of (by decide +kernel) (Nat.le_of_ble_eq_true rfl) ?_
  refine J_eq (lv' := [(0, .ref (ka S 0 0)), (1, .int (nI j))]) rfl rfl rfl ?_
  refine J_aload_n 0 rfl dX7_logNumber_0 ?_
  refine gf_7_33 (n0 _) dX7_logNumber_1 ?_
  refine J_iload_n 1 rfl dX7_logNumber_4 ?_
  refine cv_7_254 (cells' := 0) (slots' := 0) dX7_logNumber_5 (c_X4_entry_s hG.2.2.1 hG.2.2.2.1 hl61 hl60 hj) (n4 _) ⟨by decide, by decide⟩ rfl rfl (by decide) (by decide) (Nat.le_of_ble_eq_true rfl) (fun _ _ r1 => ?_) (fun _ _ h => h.elim)
  obtain ⟨rfl, rfl⟩ := r1
  refine J_eq (st' := [.ref (ka S 18 (slotF (lg % 60) j))]) rfl rfl rfl ?_
  refine gf_7_266 (n18 _ (by first | omega | exact slotF_lt (by omega) (by omega))) dX7_logNumber_8 ?_
  refine J_topeq (m.1 70 ((lg - 1 - j) % 60)) (by rw [hse]; exact hgg.2.2.1) ?_
  exact J_ireturn rfl (by first | rfl | assumption | simp [kb_nar]) dX7_logNumber_11 (⟨rfl, I, L, R, ln, qu, lg, rfl, hR, by omega⟩) (by omega) (by omega)

set_option maxRecDepth 20000 in
set_option maxHeartbeats 1000000 in
theorem c_X7_logNumber_x {cy : Nat → ClassId} {S : Nat → Nat → Nat} {I : kI} {L : kL} {R : kRf} {LP : List Nat} {m : Mu} {rc : Nat → Nat} {ln qu : List Nat} {lg B : Nat} {x : Int32} (hR : Rel m I L R LP rc ln qu lg) (hI : Inv m B) (hB : B < 2 ^ 30) (hlg : lg < 2 ^ 30) (hx : ∀ s, s < min lg 60 → x ≠ nI s) : Con yX7_logNumber cX7_logNumber 2 (some .int) 7 1 6 cy [.ref (ka S 0 0), .int x] (wc cy S I L R LP) kNo (kTX "java/util/NoSuchElementException" cy S LP rc m) := by
  obtain ⟨hS, hC, hH, hL, hG, hT⟩ := hR
  have hR : Rel m I L R LP rc ln qu lg := ⟨hS, hC, hH, hL, hG, hT⟩
  have hRc := hC.2.2
  have hkk := hI.2.2.2.1
  have hh := hI.2.2.2.2.1
  have hl60 := Nat.min_le_right lg 60
  have hl61 : lg % 60 < 60 := Nat.mod_lt _ (by decide)
  refine Con_of (by decide +kernel) (Nat.le_of_ble_eq_true rfl) ?_
  refine J_eq (lv' := [(0, .ref (ka S 0 0)), (1, .int x)]) rfl rfl rfl ?_
  refine J_aload_n 0 rfl dX7_logNumber_0 ?_
  refine gf_7_33 (n0 _) dX7_logNumber_1 ?_
  refine J_iload_n 1 rfl dX7_logNumber_4 ?_
  exact cv_7_254 (cells' := 1) (slots' := 6) dX7_logNumber_5 (c_X4_entry_x hG.2.2.1 hG.2.2.2.1 hl61 hl60 hx) (n4 _) ⟨by decide, by decide⟩ rfl rfl (by decide) (by decide) (Nat.le_of_ble_eq_true rfl) (fun _ _ h => h.elim) (fun E9 w9 h9 => by obtain ⟨rfl, rfl⟩ := h9; exact ⟨rfl, I, L, R, ln, qu, lg, rfl, hR, by omega⟩)

set_option maxRecDepth 20000 in
set_option maxHeartbeats 1000000 in
theorem c_X7_logged_s {cy : Nat → ClassId} {S : Nat → Nat → Nat} {I : kI} {L : kL} {R : kRf} {LP : List Nat} {m : Mu} {rc : Nat → Nat} {ln qu : List Nat} {lg B : Nat}  (hR : Rel m I L R LP rc ln qu lg) (hI : Inv m B) (hB : B < 2 ^ 30) (hlg : lg < 2 ^ 30)  : Con yX7_logged cX7_logged 1 (some .int) 0 0 0 cy [.ref (ka S 0 0)] (wc cy S I L R LP) (fun r w' => r = some (.int (m.1 30 27)) ∧ RelX cy S LP rc m w') kF := by
  obtain ⟨hS, hC, hH, hL, hG, hT⟩ := hR
  have hR : Rel m I L R LP rc ln qu lg := ⟨hS, hC, hH, hL, hG, hT⟩
  have hRc := hC.2.2
  have hkk := hI.2.2.2.1
  have hh := hI.2.2.2.2.1
  refine Con_of (by decide +kernel) (Nat.le_of_ble_eq_true rfl) ?_
  refine J_eq (lv' := [(0, .ref (ka S 0 0))]) rfl rfl rfl ?_
  refine J_aload_n 0 rfl dX7_logged_0 ?_
  refine gf_7_33 (n0 _) dX7_logged_1 ?_
  refine gf_7_251 (n4 _) dX7_logged_4 ?_
  refine J_topeq (m.1 30 27) (by exact hG.2.1.trans hG.1.symm) ?_
  exact J_ireturn rfl (by first | rfl | assumption | simp [kb_nar]) dX7_logged_7 (⟨rfl, I, L, R, ln, qu, lg, rfl, hR, by omega⟩) (by omega) (by omega)

set_option maxRecDepth 20000 in
set_option maxHeartbeats 1000000 in
theorem c_X7_waited_s {cy : Nat → ClassId} {S : Nat → Nat → Nat} {I : kI} {L : kL} {R : kRf} {LP : List Nat} {m : Mu} {rc : Nat → Nat} {ln qu : List Nat} {lg B : Nat}  (hR : Rel m I L R LP rc ln qu lg) (hI : Inv m B) (hB : B < 2 ^ 30) (hlg : lg < 2 ^ 30)  : Con yX7_waited cX7_waited 1 (some .long) 0 0 0 cy [.ref (ka S 0 0)] (wc cy S I L R LP) (fun r w' => r = some (.long m.2) ∧ RelX cy S LP rc m w') kF := by
  obtain ⟨hS, hC, hH, hL, hG, hT⟩ := hR
  have hR : Rel m I L R LP rc ln qu lg := ⟨hS, hC, hH, hL, hG, hT⟩
  have hRc := hC.2.2
  have hkk := hI.2.2.2.1
  have hh := hI.2.2.2.2.1
  refine Con_of (by decide +kernel) (Nat.le_of_ble_eq_true rfl) ?_
  refine J_eq (lv' := [(0, .ref (ka S 0 0))]) rfl rfl rfl ?_
  refine J_aload_n 0 rfl dX7_waited_0 ?_
  refine gf_7_222 (n0 _) dX7_waited_1 ?_
  refine J_eq (st' := [.long m.2]) rfl rfl (by rw [hT.2.2.2.1]) ?_
  exact J_lreturn rfl dX7_waited_4 (⟨rfl, I, L, R, ln, qu, lg, rfl, hR, by omega⟩) (by omega) (by omega)

set_option maxRecDepth 20000 in
set_option maxHeartbeats 1000000 in
theorem c_X7_hears_s {cy : Nat → ClassId} {S : Nat → Nat → Nat} {I : kI} {L : kL} {R : kRf} {LP : List Nat} {m : Mu} {rc : Nat → Nat} {ln qu : List Nat} {lg B : Nat} {s t : Nat} (hR : Rel m I L R LP rc ln qu lg) (hI : Inv m B) (hB : B < 2 ^ 30) (hlg : lg < 2 ^ 30) (hs : s < mS m) (ht : t < mS m) (hne : s ≠ t) : Con yX7_hears cX7_hears 3 (some .boolean) 8 0 0 cy [.ref (ka S 0 0), .int (nI s), .int (nI t)] (wc cy S I L R LP) (fun r w' => r = some (.int (kb (mAdj m s t))) ∧ RelX cy S LP rc m w') kF := by
  obtain ⟨hS, hC, hH, hL, hG, hT⟩ := hR
  have hR : Rel m I L R LP rc ln qu lg := ⟨hS, hC, hH, hL, hG, hT⟩
  have hRc := hC.2.2
  have hkk := hI.2.2.2.1
  have hh := hI.2.2.2.2.1
  have hst := hS.2.1
  have hst2 := hst.2
  have hl : linkB I s t = mAdj m s t := by rw [← adj_eq hS hI.2.1 hs ht]; unfold cAdj; simp [hne]
  refine Con_of (by decide +kernel) (Nat.le_of_ble_eq_true rfl) ?_
  refine J_eq (lv' := [(0, .ref (ka S 0 0)), (1, .int (nI s)), (2, .int (nI t))]) rfl rfl rfl ?_
  refine J_aload_n 0 rfl dX7_hears_0 ?_
  refine J_iload_n 1 rfl dX7_hears_1 ?_
  refine J_iload_n 2 rfl dX7_hears_2 ?_
  refine cv_7_97 (cells' := 0) (slots' := 0) dX7_hears_3 (c_X7_checkPair_s hst hs ht hne) (n0 _) ⟨by decide, by decide⟩ rfl rfl (by decide) (by decide) (Nat.le_of_ble_eq_true rfl) (fun _ _ r1 => ?_) (fun _ _ h => h.elim)
  obtain ⟨rfl, rfl⟩ := r1
  refine J_eq (st' := []) rfl rfl rfl ?_
  refine J_aload_n 0 rfl dX7_hears_6 ?_
  refine gf_7_10 (n0 _) dX7_hears_7 ?_
  refine J_iload_n 1 rfl dX7_hears_10 ?_
  refine J_iload_n 2 rfl dX7_hears_11 ?_
  refine cv_7_101 (cells' := 0) (slots' := 0) dX7_hears_12 (c_X1_areLinked hst hs ht) (n1 _) ⟨by decide, by decide⟩ rfl rfl (by decide) (by decide) (Nat.le_of_ble_eq_true rfl) (fun _ _ r2 => ?_) (fun _ _ h => h.elim)
  obtain ⟨rfl, rfl⟩ := r2
  refine J_eq (st' := [.int (kb (linkB I s t))]) rfl rfl rfl ?_
  refine J_topeq (kb (mAdj m s t)) (by rw [hl]) ?_
  exact J_ireturn rfl (by first | rfl | assumption | simp [kb_nar]) dX7_hears_15 (⟨rfl, I, L, R, ln, qu, lg, rfl, hR, by omega⟩) (by omega) (by omega)

set_option maxRecDepth 20000 in
set_option maxHeartbeats 1000000 in
theorem c_X7_hears_e {cy : Nat → ClassId} {S : Nat → Nat → Nat} {I : kI} {L : kL} {R : kRf} {LP : List Nat} {m : Mu} {rc : Nat → Nat} {ln qu : List Nat} {lg B : Nat} {s : Nat}  (hR : Rel m I L R LP rc ln qu lg) (hI : Inv m B) (hB : B < 2 ^ 30) (hlg : lg < 2 ^ 30) (hs : s < mS m) : Con yX7_hears cX7_hears 3 (some .boolean) 8 1 6 cy [.ref (ka S 0 0), .int (nI s), .int (nI s)] (wc cy S I L R LP) kNo (kTX "java/lang/IllegalArgumentException" cy S LP rc m) := by
  obtain ⟨hS, hC, hH, hL, hG, hT⟩ := hR
  have hR : Rel m I L R LP rc ln qu lg := ⟨hS, hC, hH, hL, hG, hT⟩
  have hRc := hC.2.2
  have hkk := hI.2.2.2.1
  have hh := hI.2.2.2.2.1
  have hst := hS.2.1
  have hst2 := hst.2
  refine Con_of (by decide +kernel) (Nat.le_of_ble_eq_true rfl) ?_
  refine J_eq (lv' := [(0, .ref (ka S 0 0)), (1, .int (nI s)), (2, .int (nI s))]) rfl rfl rfl ?_
  refine J_aload_n 0 rfl dX7_hears_0 ?_
  refine J_iload_n 1 rfl dX7_hears_1 ?_
  refine J_iload_n 2 rfl dX7_hears_2 ?_
  exact cv_7_97 (cells' := 1) (slots' := 6) dX7_hears_3 (c_X7_checkPair_e hst hs) (n0 _) ⟨by decide, by decide⟩ rfl rfl (by decide) (by decide) (Nat.le_of_ble_eq_true rfl) (fun _ _ h => h.elim) (fun E9 w9 h9 => by obtain ⟨rfl, rfl⟩ := h9; exact ⟨rfl, I, L, R, ln, qu, lg, rfl, hR, by omega⟩)

set_option maxRecDepth 20000 in
set_option maxHeartbeats 1000000 in
theorem c_X7_hears_x {cy : Nat → ClassId} {S : Nat → Nat → Nat} {I : kI} {L : kL} {R : kRf} {LP : List Nat} {m : Mu} {rc : Nat → Nat} {ln qu : List Nat} {lg B : Nat} {x y : Int32}  (hR : Rel m I L R LP rc ln qu lg) (hI : Inv m B) (hB : B < 2 ^ 30) (hlg : lg < 2 ^ 30) (hx : ∀ s, s < mS m → x ≠ nI s) : Con yX7_hears cX7_hears 3 (some .boolean) 8 1 6 cy [.ref (ka S 0 0), .int x, .int y] (wc cy S I L R LP) kNo (kTX "java/lang/IndexOutOfBoundsException" cy S LP rc m) := by
  obtain ⟨hS, hC, hH, hL, hG, hT⟩ := hR
  have hR : Rel m I L R LP rc ln qu lg := ⟨hS, hC, hH, hL, hG, hT⟩
  have hRc := hC.2.2
  have hkk := hI.2.2.2.1
  have hh := hI.2.2.2.2.1
  have hst := hS.2.1
  have hst2 := hst.2
  refine Con_of (by decide +kernel) (Nat.le_of_ble_eq_true rfl) ?_
  refine J_eq (lv' := [(0, .ref (ka S 0 0)), (1, .int x), (2, .int y)]) rfl rfl rfl ?_
  refine J_aload_n 0 rfl dX7_hears_0 ?_
  refine J_iload_n 1 rfl dX7_hears_1 ?_
  refine J_iload_n 2 rfl dX7_hears_2 ?_
  exact cv_7_97 (cells' := 1) (slots' := 6) dX7_hears_3 (c_X7_checkPair_x hst hx) (n0 _) ⟨by decide, by decide⟩ rfl rfl (by decide) (by decide) (Nat.le_of_ble_eq_true rfl) (fun _ _ h => h.elim) (fun E9 w9 h9 => by obtain ⟨rfl, rfl⟩ := h9; exact ⟨rfl, I, L, R, ln, qu, lg, rfl, hR, by omega⟩)

set_option maxRecDepth 20000 in
set_option maxHeartbeats 1000000 in
theorem c_X7_hears_y {cy : Nat → ClassId} {S : Nat → Nat → Nat} {I : kI} {L : kL} {R : kRf} {LP : List Nat} {m : Mu} {rc : Nat → Nat} {ln qu : List Nat} {lg B : Nat} {s : Nat} {x : Int32}  (hR : Rel m I L R LP rc ln qu lg) (hI : Inv m B) (hB : B < 2 ^ 30) (hlg : lg < 2 ^ 30) (hs : s < mS m) (hx : ∀ s, s < mS m → x ≠ nI s) : Con yX7_hears cX7_hears 3 (some .boolean) 8 1 6 cy [.ref (ka S 0 0), .int (nI s), .int x] (wc cy S I L R LP) kNo (kTX "java/lang/IndexOutOfBoundsException" cy S LP rc m) := by
  obtain ⟨hS, hC, hH, hL, hG, hT⟩ := hR
  have hR : Rel m I L R LP rc ln qu lg := ⟨hS, hC, hH, hL, hG, hT⟩
  have hRc := hC.2.2
  have hkk := hI.2.2.2.1
  have hh := hI.2.2.2.2.1
  have hst := hS.2.1
  have hst2 := hst.2
  refine Con_of (by decide +kernel) (Nat.le_of_ble_eq_true rfl) ?_
  refine J_eq (lv' := [(0, .ref (ka S 0 0)), (1, .int (nI s)), (2, .int x)]) rfl rfl rfl ?_
  refine J_aload_n 0 rfl dX7_hears_0 ?_
  refine J_iload_n 1 rfl dX7_hears_1 ?_
  refine J_iload_n 2 rfl dX7_hears_2 ?_
  exact cv_7_97 (cells' := 1) (slots' := 6) dX7_hears_3 (c_X7_checkPair_y hst hs hx) (n0 _) ⟨by decide, by decide⟩ rfl rfl (by decide) (by decide) (Nat.le_of_ble_eq_true rfl) (fun _ _ h => h.elim) (fun E9 w9 h9 => by obtain ⟨rfl, rfl⟩ := h9; exact ⟨rfl, I, L, R, ln, qu, lg, rfl, hR, by omega⟩)

