/-! rules for doubles and floats; meanWait, channelShare -/
section KFP
variable {own nm : String} {cc : ByteArray} {nL : Nat} {ret : Option FieldType} {d mc ms : Nat} {cy : Nat → ClassId} {Q : kQT} {QX : kXT} {pc : Nat} {lv lv' : List (Nat × Value)} {st rest : List Value} {w : va_W} {cells slots : Nat}

theorem J_i2d {x : Int32}  (hd : decode cc pc = .ok (.i2d, 1))
    (kk : J own nm cc nL ret d mc ms cy Q QX (pc + 1) lv (.double (FP.i2d x) :: rest) w cells slots) : J own nm cc nL ret d mc ms cy Q QX pc lv (.int x :: rest) w cells slots := by
  intro p l e s m args below meth c D A C0 H locs ls hP hD hS hll
  exact lv_i2d C0.1 C0.2.1 hd (kk p l e s m args below meth c D A C0 H locs ls hP hD hS hll)

theorem J_l2d {x : Int64}  (hd : decode cc pc = .ok (.l2d, 1))
    (kk : J own nm cc nL ret d mc ms cy Q QX (pc + 1) lv (.double (FP.l2d x) :: rest) w cells slots) : J own nm cc nL ret d mc ms cy Q QX pc lv (.long x :: rest) w cells slots := by
  intro p l e s m args below meth c D A C0 H locs ls hP hD hS hll
  exact lv_l2d C0.1 C0.2.1 hd (kk p l e s m args below meth c D A C0 H locs ls hP hD hS hll)

theorem J_i2f {x : Int32}  (hd : decode cc pc = .ok (.i2f, 1))
    (kk : J own nm cc nL ret d mc ms cy Q QX (pc + 1) lv (.float (FP.i2f x) :: rest) w cells slots) : J own nm cc nL ret d mc ms cy Q QX pc lv (.int x :: rest) w cells slots := by
  intro p l e s m args below meth c D A C0 H locs ls hP hD hS hll
  exact lv_i2f C0.1 C0.2.1 hd (kk p l e s m args below meth c D A C0 H locs ls hP hD hS hll)

theorem J_ddiv {x y : UInt64} (hne : vf_n64 (FP.ddiv x y)) (hd : decode cc pc = .ok (.ddiv, 1))
    (kk : J own nm cc nL ret d mc ms cy Q QX (pc + 1) lv (.double (FP.ddiv x y) :: rest) w cells slots) : J own nm cc nL ret d mc ms cy Q QX pc lv (.double y :: .double x :: rest) w cells slots := by
  intro p l e s m args below meth c D A C0 H locs ls hP hD hS hll
  exact lv_ddiv C0.1 C0.2.1 hd hne (kk p l e s m args below meth c D A C0 H locs ls hP hD hS hll)

theorem J_fdiv {x y : UInt32} (hne : vf_n32 (FP.fdiv x y)) (hd : decode cc pc = .ok (.fdiv, 1))
    (kk : J own nm cc nL ret d mc ms cy Q QX (pc + 1) lv (.float (FP.fdiv x y) :: rest) w cells slots) : J own nm cc nL ret d mc ms cy Q QX pc lv (.float y :: .float x :: rest) w cells slots := by
  intro p l e s m args below meth c D A C0 H locs ls hP hD hS hll
  exact lv_fdiv C0.1 C0.2.1 hd hne (kk p l e s m args below meth c D A C0 H locs ls hP hD hS hll)

theorem J_f2d {x : UInt32} (hne : vf_n64 (FP.f2d x)) (hd : decode cc pc = .ok (.f2d, 1))
    (kk : J own nm cc nL ret d mc ms cy Q QX (pc + 1) lv (.double (FP.f2d x) :: rest) w cells slots) : J own nm cc nL ret d mc ms cy Q QX pc lv (.float x :: rest) w cells slots := by
  intro p l e s m args below meth c D A C0 H locs ls hP hD hS hll
  exact lv_f2d C0.1 C0.2.1 hd hne (kk p l e s m args below meth c D A C0 H locs ls hP hD hS hll)

theorem J_dconst0   (hd : decode cc pc = .ok (.dconst 0, 1))
    (kk : J own nm cc nL ret d mc ms cy Q QX (pc + 1) lv (.double FP.dconst0 :: rest) w cells slots) : J own nm cc nL ret d mc ms cy Q QX pc lv (rest) w cells slots := by
  intro p l e s m args below meth c D A C0 H locs ls hP hD hS hll
  exact lv_dconst0 C0.1 C0.2.1 hd (kk p l e s m args below meth c D A C0 H locs ls hP hD hS hll)

theorem J_fconst0   (hd : decode cc pc = .ok (.fconst 0, 1))
    (kk : J own nm cc nL ret d mc ms cy Q QX (pc + 1) lv (.float FP.fconst0 :: rest) w cells slots) : J own nm cc nL ret d mc ms cy Q QX pc lv (rest) w cells slots := by
  intro p l e s m args below meth c D A C0 H locs ls hP hD hS hll
  exact lv_fconst0 C0.1 C0.2.1 hd (kk p l e s m args below meth c D A C0 H locs ls hP hD hS hll)

theorem J_dcmp {x y : UInt64} {op : CmpOp}  (hd : decode cc pc = .ok (.dcmp op, 1))
    (kk : J own nm cc nL ret d mc ms cy Q QX (pc + 1) lv (.int (Op.cmpValue (FP.dcmp x y) op) :: rest) w cells slots) : J own nm cc nL ret d mc ms cy Q QX pc lv (.double y :: .double x :: rest) w cells slots := by
  intro p l e s m args below meth c D A C0 H locs ls hP hD hS hll
  exact lv_dcmp C0.1 C0.2.1 hd (kk p l e s m args below meth c D A C0 H locs ls hP hD hS hll)

end KFP

set_option maxRecDepth 20000 in
set_option maxHeartbeats 1000000 in
theorem c_X7_meanWait_s {cy : Nat → ClassId} {S : Nat → Nat → Nat} {I : kI} {L : kL} {R : kRf} {LP : List Nat} {m : Mu} {rc : Nat → Nat} {ln qu : List Nat} {lg B : Nat}  (hR : Rel m I L R LP rc ln qu lg) (hI : Inv m B) (hB : B < 2 ^ 30) (hlg : lg < 2 ^ 30) (h0 : m.1 30 22 ≠ 0) : Con yX7_meanWait cX7_meanWait 1 (some .double) 0 0 0 cy [.ref (ka S 0 0)] (wc cy S I L R LP) (fun r w' => r = some (.double (FP.ddiv (FP.i2d (m.1 30 23)) (FP.i2d (m.1 30 22)))) ∧ RelX cy S LP rc m w') kF := by
  obtain ⟨hS, hC, hH, hL, hG, hT⟩ := hR
  have hR : Rel m I L R LP rc ln qu lg := ⟨hS, hC, hH, hL, hG, hT⟩
  have hRc := hC.2.2
  have hkk := hI.2.2.2.1
  have hh := hI.2.2.2.2.1
  refine Con_of (by decide +kernel) (Nat.le_of_ble_eq_true rfl) ?_
  refine J_eq (lv' := [(0, .ref (ka S 0 0))]) rfl rfl rfl ?_
  refine J_aload_n 0 rfl dX7_meanWait_0 ?_
  refine gf_7_267 (n0 _) dX7_meanWait_1 ?_
  refine J_topeq (m.1 30 22) (by exact hT.2.2.1) ?_
  refine J_if_ne 18 (by decide) dX7_meanWait_4 (fun c1 => ?_) (fun c1 => ?_)
  rotate_left
  · exfalso
    exact h0 c1
  refine J_aload_n 0 rfl dX7_meanWait_18 ?_
  refine gf_7_275 (n0 _) dX7_meanWait_19 ?_
  refine J_eq (st' := [.long (m.1 30 23).toInt64]) rfl rfl (by rw [hT.2.2.2.2]) ?_
  refine J_l2d dX7_meanWait_22 ?_
  refine J_topv (v' := .double (FP.i2d (m.1 30 23))) (by rw [l2d_i2d]) ?_
  refine J_aload_n 0 rfl dX7_meanWait_23 ?_
  refine gf_7_267 (n0 _) dX7_meanWait_24 ?_
  refine J_topeq (m.1 30 22) (by exact hT.2.2.1) ?_
  refine J_i2d dX7_meanWait_27 ?_
  refine J_ddiv (by exact ddiv_ok2 h0) dX7_meanWait_28 ?_
  exact J_dreturn rfl dX7_meanWait_29 (⟨rfl, I, L, R, ln, qu, lg, rfl, hR, by omega⟩) (by omega) (by omega)

set_option maxRecDepth 20000 in
set_option maxHeartbeats 1000000 in
theorem c_X7_meanWait_x {cy : Nat → ClassId} {S : Nat → Nat → Nat} {I : kI} {L : kL} {R : kRf} {LP : List Nat} {m : Mu} {rc : Nat → Nat} {ln qu : List Nat} {lg B : Nat}  (hR : Rel m I L R LP rc ln qu lg) (hI : Inv m B) (hB : B < 2 ^ 30) (hlg : lg < 2 ^ 30) (h0 : m.1 30 22 = 0) : Con yX7_meanWait cX7_meanWait 1 (some .double) 6 1 6 cy [.ref (ka S 0 0)] (wc cy S I L R LP) kNo (kTX "java/lang/ArithmeticException" cy S LP rc m) := by
  obtain ⟨hS, hC, hH, hL, hG, hT⟩ := hR
  have hR : Rel m I L R LP rc ln qu lg := ⟨hS, hC, hH, hL, hG, hT⟩
  have hRc := hC.2.2
  have hkk := hI.2.2.2.1
  have hh := hI.2.2.2.2.1
  refine Con_of (by decide +kernel) (Nat.le_of_ble_eq_true rfl) ?_
  refine J_eq (lv' := [(0, .ref (ka S 0 0))]) rfl rfl rfl ?_
  refine J_aload_n 0 rfl dX7_meanWait_0 ?_
  refine gf_7_267 (n0 _) dX7_meanWait_1 ?_
  refine J_topeq (m.1 30 22) (by exact hT.2.2.1) ?_
  refine J_if_ne 18 (by decide) dX7_meanWait_4 (fun c1 => ?_) (fun c1 => ?_)
  · exfalso
    exact c1 h0
  exact J_throwW (E := "java/lang/ArithmeticException") (text := "no call has begun") (ik := 270) (is := 272) (ic := 274) exc_ArithmeticException (by decide +kernel) cl_7_270 ini_ArithmeticException at_7_274 fit_ArithmeticException (⟨rfl, I, L, R, ln, qu, lg, rfl, hR, by omega⟩) (by decide) (Nat.le_of_ble_eq_true rfl) (by decide) (by decide) dX7_meanWait_7 dX7_meanWait_10 dX7_meanWait_11 dX7_meanWait_14 dX7_meanWait_17

set_option maxRecDepth 20000 in
set_option maxHeartbeats 1000000 in
theorem c_X7_channelShare_s {cy : Nat → ClassId} {S : Nat → Nat → Nat} {I : kI} {L : kL} {R : kRf} {LP : List Nat} {m : Mu} {rc : Nat → Nat} {ln qu : List Nat} {lg B : Nat} {h : Nat} (hR : Rel m I L R LP rc ln qu lg) (hI : Inv m B) (hB : B < 2 ^ 30) (hlg : lg < 2 ^ 30) (hh3 : h < 3) (h0 : m.1 30 26 ≠ 0) : Con yX7_channelShare cX7_channelShare 2 (some .float) 7 0 0 cy [.ref (ka S 0 0), .int (nI h)] (wc cy S I L R LP) (fun r w' => r = some (.float (FP.fdiv (FP.i2f (m.1 64 h)) (FP.i2f (m.1 30 26)))) ∧ RelX cy S LP rc m w') kF := by
  obtain ⟨hS, hC, hH, hL, hG, hT⟩ := hR
  have hR : Rel m I L R LP rc ln qu lg := ⟨hS, hC, hH, hL, hG, hT⟩
  have hRc := hC.2.2
  have hkk := hI.2.2.2.1
  have hh := hI.2.2.2.2.1
  obtain ⟨tt, aa, ss, ht1, ht2, -, -, -, -⟩ := hI.2.2.2.2.2.2.2.2
  have htt : tt ≠ 0 := by intro z; subst z; exact h0 ht1
  have hfp : vf_n32 (FP.fdiv (FP.i2f (m.1 64 h)) (FP.i2f (m.1 30 26))) := by rw [ht1]; exact fdiv_ok htt (by omega)
  refine Con_of (by decide +kernel) (Nat.le_of_ble_eq_true rfl) ?_
  refine J_eq (lv' := [(0, .ref (ka S 0 0)), (1, .int (nI h))]) rfl rfl rfl ?_
  refine J_iload_n 1 rfl dX7_channelShare_0 ?_
  refine cv_7_206 (i := 0) (cells' := 0) (slots' := 0) dX7_channelShare_1 (c_X7_checkChannel_s hh3) ⟨by decide, by decide⟩ rfl rfl (by decide) (by decide) (Nat.le_of_ble_eq_true rfl) (fun _ _ r1 => ?_) (fun _ _ h => h.elim)
  obtain ⟨rfl, rfl⟩ := r1
  refine J_eq (st' := []) rfl rfl rfl ?_
  refine J_aload_n 0 rfl dX7_channelShare_4 ?_
  refine gf_7_171 (n0 _) dX7_channelShare_5 ?_
  refine J_topeq (m.1 30 26) (by exact hT.1) ?_
  refine J_if_ne 22 (by decide) dX7_channelShare_8 (fun c2 => ?_) (fun c2 => ?_)
  rotate_left
  · exfalso
    exact h0 c2
  refine J_aload_n 0 rfl dX7_channelShare_22 ?_
  refine gf_7_26 (n0 _) dX7_channelShare_23 ?_
  refine J_iload_n 1 rfl dX7_channelShare_26 ?_
  refine cv_7_280 (cells' := 0) (slots' := 0) dX7_channelShare_27 (c_X0_minutesSpoken hh3) (n3 _) ⟨by decide, by decide⟩ rfl rfl (by decide) (by decide) (Nat.le_of_ble_eq_true rfl) (fun _ _ r3 => ?_) (fun _ _ h => h.elim)
  obtain ⟨rfl, rfl⟩ := r3
  refine J_eq (st' := [.int (I 15 0 h)]) rfl rfl rfl ?_
  refine J_topeq (m.1 64 h) (hH.2 h hh3) ?_
  refine J_i2f dX7_channelShare_30 ?_
  refine J_aload_n 0 rfl dX7_channelShare_31 ?_
  refine gf_7_171 (n0 _) dX7_channelShare_32 ?_
  refine J_topeq (m.1 30 26) (by exact hT.1) ?_
  refine J_i2f dX7_channelShare_35 ?_
  refine J_fdiv (by exact hfp) dX7_channelShare_36 ?_
  exact J_freturn rfl dX7_channelShare_37 (⟨rfl, I, L, R, ln, qu, lg, rfl, hR, by omega⟩) (by omega) (by omega)

set_option maxRecDepth 20000 in
set_option maxHeartbeats 1000000 in
theorem c_X7_channelShare_y {cy : Nat → ClassId} {S : Nat → Nat → Nat} {I : kI} {L : kL} {R : kRf} {LP : List Nat} {m : Mu} {rc : Nat → Nat} {ln qu : List Nat} {lg B : Nat} {h : Nat} (hR : Rel m I L R LP rc ln qu lg) (hI : Inv m B) (hB : B < 2 ^ 30) (hlg : lg < 2 ^ 30) (hh3 : h < 3) (h0 : m.1 30 26 = 0) : Con yX7_channelShare cX7_channelShare 2 (some .float) 7 1 6 cy [.ref (ka S 0 0), .int (nI h)] (wc cy S I L R LP) kNo (kTX "java/lang/ArithmeticException" cy S LP rc m) := by
  obtain ⟨hS, hC, hH, hL, hG, hT⟩ := hR
  have hR : Rel m I L R LP rc ln qu lg := ⟨hS, hC, hH, hL, hG, hT⟩
  have hRc := hC.2.2
  have hkk := hI.2.2.2.1
  have hh := hI.2.2.2.2.1
  refine Con_of (by decide +kernel) (Nat.le_of_ble_eq_true rfl) ?_
  refine J_eq (lv' := [(0, .ref (ka S 0 0)), (1, .int (nI h))]) rfl rfl rfl ?_
  refine J_iload_n 1 rfl dX7_channelShare_0 ?_
  refine cv_7_206 (i := 0) (cells' := 0) (slots' := 0) dX7_channelShare_1 (c_X7_checkChannel_s hh3) ⟨by decide, by decide⟩ rfl rfl (by decide) (by decide) (Nat.le_of_ble_eq_true rfl) (fun _ _ r1 => ?_) (fun _ _ h => h.elim)
  obtain ⟨rfl, rfl⟩ := r1
  refine J_eq (st' := []) rfl rfl rfl ?_
  refine J_aload_n 0 rfl dX7_channelShare_4 ?_
  refine gf_7_171 (n0 _) dX7_channelShare_5 ?_
  refine J_topeq (m.1 30 26) (by exact hT.1) ?_
  refine J_if_ne 22 (by decide) dX7_channelShare_8 (fun c2 => ?_) (fun c2 => ?_)
  · exfalso
    exact c2 h0
  exact J_throwW (E := "java/lang/ArithmeticException") (text := "no minute has passed") (ik := 270) (is := 278) (ic := 274) exc_ArithmeticException (by decide +kernel) cl_7_270 ini_ArithmeticException at_7_274 fit_ArithmeticException (⟨rfl, I, L, R, ln, qu, lg, rfl, hR, by omega⟩) (by decide) (Nat.le_of_ble_eq_true rfl) (by decide) (by decide) dX7_channelShare_11 dX7_channelShare_14 dX7_channelShare_15 dX7_channelShare_18 dX7_channelShare_21

set_option maxRecDepth 20000 in
set_option maxHeartbeats 1000000 in
theorem c_X7_channelShare_x {cy : Nat → ClassId} {S : Nat → Nat → Nat} {I : kI} {L : kL} {R : kRf} {LP : List Nat} {m : Mu} {rc : Nat → Nat} {ln qu : List Nat} {lg B : Nat} {x : Int32} (hR : Rel m I L R LP rc ln qu lg) (hI : Inv m B) (hB : B < 2 ^ 30) (hlg : lg < 2 ^ 30) (hx : ∀ s, s < 3 → x ≠ nI s) : Con yX7_channelShare cX7_channelShare 2 (some .float) 7 1 6 cy [.ref (ka S 0 0), .int x] (wc cy S I L R LP) kNo (kTX "java/lang/IndexOutOfBoundsException" cy S LP rc m) := by
  obtain ⟨hS, hC, hH, hL, hG, hT⟩ := hR
  have hR : Rel m I L R LP rc ln qu lg := ⟨hS, hC, hH, hL, hG, hT⟩
  have hRc := hC.2.2
  have hkk := hI.2.2.2.1
  have hh := hI.2.2.2.2.1
  refine Con_of (by decide +kernel) (Nat.le_of_ble_eq_true rfl) ?_
  refine J_eq (lv' := [(0, .ref (ka S 0 0)), (1, .int x)]) rfl rfl rfl ?_
  refine J_iload_n 1 rfl dX7_channelShare_0 ?_
  exact cv_7_206 (i := 0) (cells' := 1) (slots' := 6) dX7_channelShare_1 (c_X7_checkChannel_x hx) ⟨by decide, by decide⟩ rfl rfl (by decide) (by decide) (Nat.le_of_ble_eq_true rfl) (fun _ _ h => h.elim) (fun E9 w9 h9 => by obtain ⟨rfl, rfl⟩ := h9; exact ⟨rfl, I, L, R, ln, qu, lg, rfl, hR, by omega⟩)

set_option maxRecDepth 20000 in
set_option maxHeartbeats 1000000 in
theorem c_X7_pass_x {cy : Nat → ClassId} {S : Nat → Nat → Nat} {I : kI} {L : kL} {R : kRf} {LP : List Nat} {m : Mu} {rc : Nat → Nat} {ln qu : List Nat} {lg B : Nat} {x : Int32} (hR : Rel m I L R LP rc ln qu lg) (hI : Inv m B) (hB : B < 2 ^ 30) (hlg : lg < 2 ^ 30) (hx : ¬ (1 ≤ x ∧ x ≤ 10)) : Con yX7_pass cX7_pass 4 (some .int) 6 1 6 cy [.ref (ka S 0 0), .int x] (wc cy S I L R LP) kNo (kTX "java/lang/IllegalArgumentException" cy S LP rc m) := by
  obtain ⟨hS, hC, hH, hL, hG, hT⟩ := hR
  have hR : Rel m I L R LP rc ln qu lg := ⟨hS, hC, hH, hL, hG, hT⟩
  have hRc := hC.2.2
  have hkk := hI.2.2.2.1
  have hh := hI.2.2.2.2.1
  refine Con_of (by decide +kernel) (Nat.le_of_ble_eq_true rfl) ?_
  refine J_eq (lv' := [(0, .ref (ka S 0 0)), (1, .int x)]) rfl rfl rfl ?_
  refine J_iload_n 1 rfl dX7_pass_0 ?_
  refine J_iconst (v := 1) (by decide) dX7_pass_1 ?_
  refine J_icmp_lt 11 (by decide) dX7_pass_2 (fun c1 => ?_) (fun c1 => ?_)
  · skip
    exact J_throw (E := "java/lang/IllegalArgumentException") (text := "minutes out of range") (ik := 47) (is := 220) (ic := 51) exc_IllegalArgumentException (by decide +kernel) cl_7_47 ini_IllegalArgumentException at_7_51 fit_IllegalArgumentException (⟨rfl, I, L, R, ln, qu, lg, rfl, hR, by omega⟩) (by decide) (Nat.le_of_ble_eq_true rfl) (by decide) (by decide) dX7_pass_11 dX7_pass_14 dX7_pass_15 dX7_pass_17 dX7_pass_20
  · skip
    refine J_iload_n 1 rfl dX7_pass_5 ?_
    refine J_bipush (v := 10) (by decide) dX7_pass_6 ?_
    refine J_icmp_le 21 (by decide) dX7_pass_8 (fun c2 => ?_) (fun c2 => ?_)
    · exfalso
      exact hx ⟨by grind, by grind⟩
    exact J_throw (E := "java/lang/IllegalArgumentException") (text := "minutes out of range") (ik := 47) (is := 220) (ic := 51) exc_IllegalArgumentException (by decide +kernel) cl_7_47 ini_IllegalArgumentException at_7_51 fit_IllegalArgumentException (⟨rfl, I, L, R, ln, qu, lg, rfl, hR, by omega⟩) (by decide) (Nat.le_of_ble_eq_true rfl) (by decide) (by decide) dX7_pass_11 dX7_pass_14 dX7_pass_15 dX7_pass_17 dX7_pass_20

set_option maxRecDepth 20000 in
set_option maxHeartbeats 1000000 in
theorem c_X8_meanWait_s {cy : Nat → ClassId} {S : Nat → Nat → Nat} {I : kI} {L : kL} {R : kRf} {m : Mu} {cd : Int32}  (hM : MR m cd I L) {Ic : kI} {Lc : kL} {Rc : kRf} {LPc : List Nat} {rc : Nat → Nat} {ln qu : List Nat} {lg B : Nat} (hR : Rel m Ic Lc Rc LPc rc ln qu lg) (hI : Inv m B) (hB : B + 90000 < 2 ^ 30) (h0 : m.1 30 22 ≠ 0) : Con yX8_meanWait cX8_meanWait 1 (some .double) 7 0 0 cy [.ref (ka S 30 0)] (wm cy S I L R) (fun r w' => r = some (.double (FP.ddiv (FP.i2d (m.1 30 23)) (FP.i2d (m.1 30 22)))) ∧ MX cy S R m 0 w') kF := by
  have hn : mN m := ⟨hR.1.1, hR.2.1.1⟩
  have h10 := hI.1
  have h150 := hI.2.2.1
  have hg0 := inv_g hI (by omega)
  have hkk := hI.2.2.2.1
  have hh := hI.2.2.2.2.1
  refine Con_of (by decide +kernel) (Nat.le_of_ble_eq_true rfl) ?_
  refine J_eq (lv' := [(0, .ref (ka S 30 0))]) rfl rfl rfl ?_
  refine J_aload_n 0 rfl dX8_meanWait_0 ?_
  refine J_aload_n 0 rfl dX8_meanWait_1 ?_
  refine gf_8_172 n30 dX8_meanWait_2 ?_
  refine J_topeq (m.1 30 22) (hM.1 30 22 rfl) ?_
  refine J_if_ne 12 (by decide) dX8_meanWait_5 (fun c1 => ?_) (fun c1 => ?_)
  rotate_left
  · exfalso
    exact h0 c1
  refine J_iconst (v := 0) (by decide) dX8_meanWait_12 ?_
  refine cv_8_113 (cells' := 0) (slots' := 0) dX8_meanWait_13 (c_X8_failsE (x := 0)) n30 ⟨by decide, by decide⟩ rfl rfl (by decide) (by decide) (Nat.le_of_ble_eq_true rfl) (fun _ _ r2 => ?_) (fun _ _ h => h.elim)
  obtain ⟨rfl, rfl⟩ := r2
  refine J_eq (st' := [.int (kb (decide (0 < (0 : Int32))))]) rfl rfl rfl ?_
  have hM3 := MR_cd hM (v := 0)
  refine J_topeq 0 (by decide) ?_
  refine J_if_eq 23 (by decide) dX8_meanWait_16 (fun c4 => ?_) (fun c4 => ?_)
  rotate_left
  · exact absurd (by decide) c4
  refine J_aload_n 0 rfl dX8_meanWait_23 ?_
  refine gf_8_175 n30 dX8_meanWait_24 ?_
  refine J_topeq (m.1 30 23) (hM3.1 30 23 rfl) ?_
  refine J_i2d dX8_meanWait_27 ?_
  refine J_aload_n 0 rfl dX8_meanWait_28 ?_
  refine gf_8_172 n30 dX8_meanWait_29 ?_
  refine J_topeq (m.1 30 22) (hM3.1 30 22 rfl) ?_
  refine J_i2d dX8_meanWait_32 ?_
  refine J_ddiv (by exact ddiv_ok2 h0) dX8_meanWait_33 ?_
  exact J_dreturn rfl dX8_meanWait_34 (⟨rfl, _, _, rfl, hM3⟩) (by omega) (by omega)

set_option maxRecDepth 20000 in
set_option maxHeartbeats 1000000 in
theorem c_X8_meanWait_x {cy : Nat → ClassId} {S : Nat → Nat → Nat} {I : kI} {L : kL} {R : kRf} {m : Mu} {cd : Int32}  (hM : MR m cd I L) {Ic : kI} {Lc : kL} {Rc : kRf} {LPc : List Nat} {rc : Nat → Nat} {ln qu : List Nat} {lg B : Nat} (hR : Rel m Ic Lc Rc LPc rc ln qu lg) (hI : Inv m B) (hB : B + 90000 < 2 ^ 30) (h0 : m.1 30 22 = 0) : Con yX8_meanWait cX8_meanWait 1 (some .double) 7 0 0 cy [.ref (ka S 30 0)] (wm cy S I L R) (fun r w' => r = some (.double FP.dconst0) ∧ MX cy S R m 1 w') kF := by
  have hn : mN m := ⟨hR.1.1, hR.2.1.1⟩
  have h10 := hI.1
  have h150 := hI.2.2.1
  have hg0 := inv_g hI (by omega)
  have hkk := hI.2.2.2.1
  have hh := hI.2.2.2.2.1
  refine Con_of (by decide +kernel) (Nat.le_of_ble_eq_true rfl) ?_
  refine J_eq (lv' := [(0, .ref (ka S 30 0))]) rfl rfl rfl ?_
  refine J_aload_n 0 rfl dX8_meanWait_0 ?_
  refine J_aload_n 0 rfl dX8_meanWait_1 ?_
  refine gf_8_172 n30 dX8_meanWait_2 ?_
  refine J_topeq (m.1 30 22) (hM.1 30 22 rfl) ?_
  refine J_if_ne 12 (by decide) dX8_meanWait_5 (fun c1 => ?_) (fun c1 => ?_)
  · exfalso
    exact c1 h0
  refine J_iconst (v := 1) (by decide) dX8_meanWait_8 ?_
  refine J_goto 13 (by decide) dX8_meanWait_9 ?_
  refine cv_8_113 (cells' := 0) (slots' := 0) dX8_meanWait_13 (c_X8_failsE (x := 1)) n30 ⟨by decide, by decide⟩ rfl rfl (by decide) (by decide) (Nat.le_of_ble_eq_true rfl) (fun _ _ r2 => ?_) (fun _ _ h => h.elim)
  obtain ⟨rfl, rfl⟩ := r2
  refine J_eq (st' := [.int (kb (decide (0 < (1 : Int32))))]) rfl rfl rfl ?_
  have hM3 := MR_cd hM (v := 1)
  refine J_topeq 1 (by decide) ?_
  refine J_if_eq 23 (by decide) dX8_meanWait_16 (fun c4 => ?_) (fun c4 => ?_)
  · exact absurd c4 (by decide)
  refine J_dconst0 dX8_meanWait_19 ?_
  refine J_goto 34 (by decide) dX8_meanWait_20 ?_
  exact J_dreturn rfl dX8_meanWait_34 (⟨rfl, _, _, rfl, hM3⟩) (by omega) (by omega)

set_option maxRecDepth 20000 in
set_option maxHeartbeats 1000000 in
theorem c_X8_channelShare_s {cy : Nat → ClassId} {S : Nat → Nat → Nat} {I : kI} {L : kL} {R : kRf} {m : Mu} {cd : Int32} {h : Nat} (hM : MR m cd I L) {Ic : kI} {Lc : kL} {Rc : kRf} {LPc : List Nat} {rc : Nat → Nat} {ln qu : List Nat} {lg B : Nat} (hR : Rel m Ic Lc Rc LPc rc ln qu lg) (hI : Inv m B) (hB : B + 90000 < 2 ^ 30) (hh3 : h < 3) (h0 : m.1 30 26 ≠ 0) : Con yX8_channelShare cX8_channelShare 2 (some .float) 7 0 0 cy [.ref (ka S 30 0), .int (nI h)] (wm cy S I L R) (fun r w' => r = some (.float (FP.fdiv (FP.i2f (m.1 64 h)) (FP.i2f (m.1 30 26)))) ∧ MX cy S R m 0 w') kF := by
  have hn : mN m := ⟨hR.1.1, hR.2.1.1⟩
  have h10 := hI.1
  have h150 := hI.2.2.1
  have hg0 := inv_g hI (by omega)
  have hkk := hI.2.2.2.1
  have hh := hI.2.2.2.2.1
  obtain ⟨tt, aa, ss, ht1, ht2, -, -, -, -⟩ := hI.2.2.2.2.2.2.2.2
  have htt : tt ≠ 0 := by intro z; subst z; exact h0 ht1
  have hfp : vf_n32 (FP.fdiv (FP.i2f (m.1 64 h)) (FP.i2f (m.1 30 26))) := by rw [ht1]; exact fdiv_ok htt (by omega)
  refine Con_of (by decide +kernel) (Nat.le_of_ble_eq_true rfl) ?_
  refine J_eq (lv' := [(0, .ref (ka S 30 0)), (1, .int (nI h))]) rfl rfl rfl ?_
  refine J_aload_n 0 rfl dX8_channelShare_0 ?_
  refine J_aload_n 0 rfl dX8_channelShare_1 ?_
  refine J_iload_n 1 rfl dX8_channelShare_2 ?_
  refine cv_8_203 (cells' := 0) (slots' := 0) dX8_channelShare_3 (c_X8_isNoChannel) n30 ⟨by decide, by decide⟩ rfl rfl (by decide) (by decide) (Nat.le_of_ble_eq_true rfl) (fun _ _ r1 => ?_) (fun _ _ h => h.elim)
  obtain ⟨rfl, rfl⟩ := r1
  refine J_eq (st' := [.int (kb (!(decide (0 ≤ (nI h)) && decide ((nI h) ≤ 2)))), .ref (ka S 30 0)]) rfl rfl rfl ?_
  refine J_topeq 0 (by exact (congrArg kb (none_f (n := 3) (by omega) (by assumption)))) ?_
  refine J_if_eq 13 (by decide) dX8_channelShare_6 (fun c2 => ?_) (fun c2 => ?_)
  rotate_left
  · exact absurd (by decide) c2
  refine J_aload_n 0 rfl dX8_channelShare_13 ?_
  refine gf_8_85 n30 dX8_channelShare_14 ?_
  refine J_topeq (m.1 30 26) (hM.1 30 26 rfl) ?_
  refine J_if_ne 24 (by decide) dX8_channelShare_17 (fun c3 => ?_) (fun c3 => ?_)
  rotate_left
  · exfalso
    exact h0 c3
  refine J_iconst (v := 0) (by decide) dX8_channelShare_24 ?_
  refine cv_8_113 (cells' := 0) (slots' := 0) dX8_channelShare_25 (c_X8_failsE (x := 0)) n30 ⟨by decide, by decide⟩ rfl rfl (by decide) (by decide) (Nat.le_of_ble_eq_true rfl) (fun _ _ r4 => ?_) (fun _ _ h => h.elim)
  obtain ⟨rfl, rfl⟩ := r4
  refine J_eq (st' := [.int (kb (decide (0 < (0 : Int32))))]) rfl rfl rfl ?_
  have hM5 := MR_cd hM (v := 0)
  refine J_topeq 0 (by decide) ?_
  refine J_if_eq 35 (by decide) dX8_channelShare_28 (fun c6 => ?_) (fun c6 => ?_)
  rotate_left
  · exact absurd (by decide) c6
  refine J_aload_n 0 rfl dX8_channelShare_35 ?_
  refine gf_8_66 n30 dX8_channelShare_36 ?_
  refine J_iload_n 1 rfl dX8_channelShare_39 ?_
  refine J_iald h 0 n64 rfl rfl (vp_in_nI (by omega) (by decide)) (nI_toNat (by omega)) dX8_channelShare_40 ?_
  refine J_topeq (m.1 64 h) (hM5.1 64 h rfl) ?_
  refine J_i2f dX8_channelShare_41 ?_
  refine J_aload_n 0 rfl dX8_channelShare_42 ?_
  refine gf_8_85 n30 dX8_channelShare_43 ?_
  refine J_topeq (m.1 30 26) (hM5.1 30 26 rfl) ?_
  refine J_i2f dX8_channelShare_46 ?_
  refine J_fdiv (by exact hfp) dX8_channelShare_47 ?_
  exact J_freturn rfl dX8_channelShare_48 (⟨rfl, _, _, rfl, hM5⟩) (by omega) (by omega)

set_option maxRecDepth 20000 in
set_option maxHeartbeats 1000000 in
theorem c_X8_channelShare_y {cy : Nat → ClassId} {S : Nat → Nat → Nat} {I : kI} {L : kL} {R : kRf} {m : Mu} {cd : Int32} {h : Nat} (hM : MR m cd I L) {Ic : kI} {Lc : kL} {Rc : kRf} {LPc : List Nat} {rc : Nat → Nat} {ln qu : List Nat} {lg B : Nat} (hR : Rel m Ic Lc Rc LPc rc ln qu lg) (hI : Inv m B) (hB : B + 90000 < 2 ^ 30) (hh3 : h < 3) (h0 : m.1 30 26 = 0) : Con yX8_channelShare cX8_channelShare 2 (some .float) 7 0 0 cy [.ref (ka S 30 0), .int (nI h)] (wm cy S I L R) (fun r w' => r = some (.float FP.fconst0) ∧ MX cy S R m 2 w') kF := by
  have hn : mN m := ⟨hR.1.1, hR.2.1.1⟩
  have h10 := hI.1
  have h150 := hI.2.2.1
  have hg0 := inv_g hI (by omega)
  have hkk := hI.2.2.2.1
  have hh := hI.2.2.2.2.1
  refine Con_of (by decide +kernel) (Nat.le_of_ble_eq_true rfl) ?_
  refine J_eq (lv' := [(0, .ref (ka S 30 0)), (1, .int (nI h))]) rfl rfl rfl ?_
  refine J_aload_n 0 rfl dX8_channelShare_0 ?_
  refine J_aload_n 0 rfl dX8_channelShare_1 ?_
  refine J_iload_n 1 rfl dX8_channelShare_2 ?_
  refine cv_8_203 (cells' := 0) (slots' := 0) dX8_channelShare_3 (c_X8_isNoChannel) n30 ⟨by decide, by decide⟩ rfl rfl (by decide) (by decide) (Nat.le_of_ble_eq_true rfl) (fun _ _ r1 => ?_) (fun _ _ h => h.elim)
  obtain ⟨rfl, rfl⟩ := r1
  refine J_eq (st' := [.int (kb (!(decide (0 ≤ (nI h)) && decide ((nI h) ≤ 2)))), .ref (ka S 30 0)]) rfl rfl rfl ?_
  refine J_topeq 0 (by exact (congrArg kb (none_f (n := 3) (by omega) (by assumption)))) ?_
  refine J_if_eq 13 (by decide) dX8_channelShare_6 (fun c2 => ?_) (fun c2 => ?_)
  rotate_left
  · exact absurd (by decide) c2
  refine J_aload_n 0 rfl dX8_channelShare_13 ?_
  refine gf_8_85 n30 dX8_channelShare_14 ?_
  refine J_topeq (m.1 30 26) (hM.1 30 26 rfl) ?_
  refine J_if_ne 24 (by decide) dX8_channelShare_17 (fun c3 => ?_) (fun c3 => ?_)
  · exfalso
    exact c3 h0
  refine J_iconst (v := 2) (by decide) dX8_channelShare_20 ?_
  refine J_goto 25 (by decide) dX8_channelShare_21 ?_
  refine cv_8_113 (cells' := 0) (slots' := 0) dX8_channelShare_25 (c_X8_failsE (x := 2)) n30 ⟨by decide, by decide⟩ rfl rfl (by decide) (by decide) (Nat.le_of_ble_eq_true rfl) (fun _ _ r4 => ?_) (fun _ _ h => h.elim)
  obtain ⟨rfl, rfl⟩ := r4
  refine J_eq (st' := [.int (kb (decide (0 < (2 : Int32))))]) rfl rfl rfl ?_
  have hM5 := MR_cd hM (v := 2)
  refine J_topeq 1 (by decide) ?_
  refine J_if_eq 35 (by decide) dX8_channelShare_28 (fun c6 => ?_) (fun c6 => ?_)
  · exact absurd c6 (by decide)
  refine J_fconst0 dX8_channelShare_31 ?_
  refine J_goto 48 (by decide) dX8_channelShare_32 ?_
  exact J_freturn rfl dX8_channelShare_48 (⟨rfl, _, _, rfl, hM5⟩) (by omega) (by omega)

set_option maxRecDepth 20000 in
set_option maxHeartbeats 1000000 in
theorem c_X8_channelShare_x {cy : Nat → ClassId} {S : Nat → Nat → Nat} {I : kI} {L : kL} {R : kRf} {m : Mu} {cd : Int32} {x : Int32} (hM : MR m cd I L) {Ic : kI} {Lc : kL} {Rc : kRf} {LPc : List Nat} {rc : Nat → Nat} {ln qu : List Nat} {lg B : Nat} (hR : Rel m Ic Lc Rc LPc rc ln qu lg) (hI : Inv m B) (hB : B + 90000 < 2 ^ 30) (hx : ∀ s, s < 3 → x ≠ nI s) : Con yX8_channelShare cX8_channelShare 2 (some .float) 7 0 0 cy [.ref (ka S 30 0), .int x] (wm cy S I L R) (fun r w' => r = some (.float FP.fconst0) ∧ MX cy S R m 1 w') kF := by
  have hn : mN m := ⟨hR.1.1, hR.2.1.1⟩
  have h10 := hI.1
  have h150 := hI.2.2.1
  have hg0 := inv_g hI (by omega)
  have hkk := hI.2.2.2.1
  have hh := hI.2.2.2.2.1
  refine Con_of (by decide +kernel) (Nat.le_of_ble_eq_true rfl) ?_
  refine J_eq (lv' := [(0, .ref (ka S 30 0)), (1, .int x)]) rfl rfl rfl ?_
  refine J_aload_n 0 rfl dX8_channelShare_0 ?_
  refine J_aload_n 0 rfl dX8_channelShare_1 ?_
  refine J_iload_n 1 rfl dX8_channelShare_2 ?_
  refine cv_8_203 (cells' := 0) (slots' := 0) dX8_channelShare_3 (c_X8_isNoChannel) n30 ⟨by decide, by decide⟩ rfl rfl (by decide) (by decide) (Nat.le_of_ble_eq_true rfl) (fun _ _ r1 => ?_) (fun _ _ h => h.elim)
  obtain ⟨rfl, rfl⟩ := r1
  refine J_eq (st' := [.int (kb (!(decide (0 ≤ x) && decide (x ≤ 2)))), .ref (ka S 30 0)]) rfl rfl rfl ?_
  refine J_topeq 1 (by exact (congrArg kb (none_t (n := 3) (by omega) (by assumption)))) ?_
  refine J_if_eq 13 (by decide) dX8_channelShare_6 (fun c2 => ?_) (fun c2 => ?_)
  · exact absurd c2 (by decide)
  refine J_iconst (v := 1) (by decide) dX8_channelShare_9 ?_
  refine J_goto 25 (by decide) dX8_channelShare_10 ?_
  refine cv_8_113 (cells' := 0) (slots' := 0) dX8_channelShare_25 (c_X8_failsE (x := 1)) n30 ⟨by decide, by decide⟩ rfl rfl (by decide) (by decide) (Nat.le_of_ble_eq_true rfl) (fun _ _ r3 => ?_) (fun _ _ h => h.elim)
  obtain ⟨rfl, rfl⟩ := r3
  refine J_eq (st' := [.int (kb (decide (0 < (1 : Int32))))]) rfl rfl rfl ?_
  have hM4 := MR_cd hM (v := 1)
  refine J_topeq 1 (by decide) ?_
  refine J_if_eq 35 (by decide) dX8_channelShare_28 (fun c5 => ?_) (fun c5 => ?_)
  · exact absurd c5 (by decide)
  refine J_fconst0 dX8_channelShare_31 ?_
  refine J_goto 48 (by decide) dX8_channelShare_32 ?_
  exact J_freturn rfl dX8_channelShare_48 (⟨rfl, _, _, rfl, hM4⟩) (by omega) (by omega)

