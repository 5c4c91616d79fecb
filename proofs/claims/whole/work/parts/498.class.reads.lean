/-! the public reads, by cases -/
def kTX (E : String) (cy : Nat → ClassId) (S : Nat → Nat → Nat) (LP : List Nat) (rc : Nat → Nat) (m : Mu) : kXT := fun E' w' => E' = E ∧ RelX cy S LP rc m w'
theorem nar_ch {v : Int32} (h : v = 100 ∨ v = 117 ∨ v = 115 ∨ v = 114) : narrow .char (.int v) = .int v := by rcases h with h | h | h | h <;> rw [h] <;> rfl
theorem nar_st {v : Int32} (h : v = 119 ∨ v = 115 ∨ v = 101 ∨ v = 99) : narrow .char (.int v) = .int v := by rcases h with h | h | h | h <;> rw [h] <;> rfl
theorem nar_on (p : Prop) [Decidable p] : narrow .boolean (.int (if p then 1 else 0)) = .int (if p then 1 else 0) := by split <;> rfl

set_option maxRecDepth 20000 in
set_option maxHeartbeats 1000000 in
theorem c_X7_placeOf_s {cy : Nat → ClassId} {S : Nat → Nat → Nat} {I : kI} {L : kL} {R : kRf} {LP : List Nat} {m : Mu} {rc : Nat → Nat} {ln qu : List Nat} {lg B : Nat} {s : Nat} (hR : Rel m I L R LP rc ln qu lg) (hI : Inv m B) (hB : B < 2 ^ 30) (hlg : lg < 2 ^ 30) (hs : s < mS m) : Con yX7_placeOf cX7_placeOf 2 (some .int) 7 0 0 cy [.ref (ka S 0 0), .int (nI s)] (wc cy S I L R LP) (fun r w' => r = some (.int (m.1 41 s)) ∧ RelX cy S LP rc m w') kF := by
  obtain ⟨hS, hC, hH, hL, hG, hT⟩ := hR
  have hR : Rel m I L R LP rc ln qu lg := ⟨hS, hC, hH, hL, hG, hT⟩
  have hRc := hC.2.2
  have hkk := hI.2.2.2.1
  have hh := hI.2.2.2.2.1
  have hst := hS.2.1
  have hst2 := hst.2
  have hs10 : s < 10 := by omega
  obtain ⟨g0, g1, g2⟩ := hS.2.2.2 s hs
  obtain ⟨g3, g4, g5⟩ := hS.2.2.1 s hs10
  refine Con_of (by decide +kernel) (Nat.le_of_ble_eq_true rfl) ?_
  refine J_eq (lv' := [(0, .ref (ka S 0 0)), (1, .int (nI s))]) rfl rfl rfl ?_
  refine J_aload_n 0 rfl dX7_placeOf_0 ?_
  refine gf_7_10 (n0 _) dX7_placeOf_1 ?_
  refine J_iload_n 1 rfl dX7_placeOf_4 ?_
  refine cv_7_70 (cells' := 0) (slots' := 0) dX7_placeOf_5 (c_X1_numbered_s hst hs) (n1 _) ⟨by decide, by decide⟩ rfl rfl (by decide) (by decide) (Nat.le_of_ble_eq_true rfl) (fun _ _ r1 => ?_) (fun _ _ h => h.elim)
  obtain ⟨rfl, rfl⟩ := r1
  refine J_eq (st' := [.ref (ka S 17 s)]) rfl rfl rfl ?_
  refine gf_7_76 (n17 _ (by omega)) dX7_placeOf_8 ?_
  refine J_topeq (m.1 41 s) (by exact g0) ?_
  exact J_ireturn rfl (by first | rfl | assumption | simp [kb_nar]) dX7_placeOf_11 (⟨rfl, I, L, R, ln, qu, lg, rfl, hR, by omega⟩) (by omega) (by omega)

set_option maxRecDepth 20000 in
set_option maxHeartbeats 1000000 in
theorem c_X7_placeOf_x {cy : Nat → ClassId} {S : Nat → Nat → Nat} {I : kI} {L : kL} {R : kRf} {LP : List Nat} {m : Mu} {rc : Nat → Nat} {ln qu : List Nat} {lg B : Nat} {x : Int32} (hR : Rel m I L R LP rc ln qu lg) (hI : Inv m B) (hB : B < 2 ^ 30) (hlg : lg < 2 ^ 30) (hx : ∀ s, s < mS m → x ≠ nI s) : Con yX7_placeOf cX7_placeOf 2 (some .int) 7 1 6 cy [.ref (ka S 0 0), .int x] (wc cy S I L R LP) kNo (kTX "java/lang/IndexOutOfBoundsException" cy S LP rc m) := by
  obtain ⟨hS, hC, hH, hL, hG, hT⟩ := hR
  have hR : Rel m I L R LP rc ln qu lg := ⟨hS, hC, hH, hL, hG, hT⟩
  have hRc := hC.2.2
  have hkk := hI.2.2.2.1
  have hh := hI.2.2.2.2.1
  have hst := hS.2.1
  have hst2 := hst.2
  refine Con_of (by decide +kernel) (Nat.le_of_ble_eq_true rfl) ?_
  refine J_eq (lv' := [(0, .ref (ka S 0 0)), (1, .int x)]) rfl rfl rfl ?_
  refine J_aload_n 0 rfl dX7_placeOf_0 ?_
  refine gf_7_10 (n0 _) dX7_placeOf_1 ?_
  refine J_iload_n 1 rfl dX7_placeOf_4 ?_
  exact cv_7_70 (cells' := 1) (slots' := 6) dX7_placeOf_5 (c_X1_numbered_x hst hx) (n1 _) ⟨by decide, by decide⟩ rfl rfl (by decide) (by decide) (Nat.le_of_ble_eq_true rfl) (fun _ _ h => h.elim) (fun E9 w9 h9 => by obtain ⟨rfl, rfl⟩ := h9; exact ⟨rfl, I, L, R, ln, qu, lg, rfl, hR, by omega⟩)

set_option maxRecDepth 20000 in
set_option maxHeartbeats 1000000 in
theorem c_X7_isOn_s {cy : Nat → ClassId} {S : Nat → Nat → Nat} {I : kI} {L : kL} {R : kRf} {LP : List Nat} {m : Mu} {rc : Nat → Nat} {ln qu : List Nat} {lg B : Nat} {s : Nat} (hR : Rel m I L R LP rc ln qu lg) (hI : Inv m B) (hB : B < 2 ^ 30) (hlg : lg < 2 ^ 30) (hs : s < mS m) : Con yX7_isOn cX7_isOn 2 (some .boolean) 7 0 0 cy [.ref (ka S 0 0), .int (nI s)] (wc cy S I L R LP) (fun r w' => r = some (.int (if m.1 43 s = 0 then 1 else 0)) ∧ RelX cy S LP rc m w') kF := by
  obtain ⟨hS, hC, hH, hL, hG, hT⟩ := hR
  have hR : Rel m I L R LP rc ln qu lg := ⟨hS, hC, hH, hL, hG, hT⟩
  have hRc := hC.2.2
  have hkk := hI.2.2.2.1
  have hh := hI.2.2.2.2.1
  have hst := hS.2.1
  have hst2 := hst.2
  have hs10 : s < 10 := by omega
  obtain ⟨g0, g1, g2⟩ := hS.2.2.2 s hs
  obtain ⟨g3, g4, g5⟩ := hS.2.2.1 s hs10
  have hnr := nar_on (m.1 43 s = 0)
  refine Con_of (by decide +kernel) (Nat.le_of_ble_eq_true rfl) ?_
  refine J_eq (lv' := [(0, .ref (ka S 0 0)), (1, .int (nI s))]) rfl rfl rfl ?_
  refine J_aload_n 0 rfl dX7_isOn_0 ?_
  refine gf_7_10 (n0 _) dX7_isOn_1 ?_
  refine J_iload_n 1 rfl dX7_isOn_4 ?_
  refine cv_7_70 (cells' := 0) (slots' := 0) dX7_isOn_5 (c_X1_numbered_s hst hs) (n1 _) ⟨by decide, by decide⟩ rfl rfl (by decide) (by decide) (Nat.le_of_ble_eq_true rfl) (fun _ _ r1 => ?_) (fun _ _ h => h.elim)
  obtain ⟨rfl, rfl⟩ := r1
  refine J_eq (st' := [.ref (ka S 17 s)]) rfl rfl rfl ?_
  refine gf_7_82 (n17 _ (by omega)) dX7_isOn_8 ?_
  refine J_topeq (if m.1 43 s = 0 then 1 else 0) (by exact g2) ?_
  exact J_ireturn rfl (by first | rfl | assumption | simp [kb_nar]) dX7_isOn_11 (⟨rfl, I, L, R, ln, qu, lg, rfl, hR, by omega⟩) (by omega) (by omega)

set_option maxRecDepth 20000 in
set_option maxHeartbeats 1000000 in
theorem c_X7_isOn_x {cy : Nat → ClassId} {S : Nat → Nat → Nat} {I : kI} {L : kL} {R : kRf} {LP : List Nat} {m : Mu} {rc : Nat → Nat} {ln qu : List Nat} {lg B : Nat} {x : Int32} (hR : Rel m I L R LP rc ln qu lg) (hI : Inv m B) (hB : B < 2 ^ 30) (hlg : lg < 2 ^ 30) (hx : ∀ s, s < mS m → x ≠ nI s) : Con yX7_isOn cX7_isOn 2 (some .boolean) 7 1 6 cy [.ref (ka S 0 0), .int x] (wc cy S I L R LP) kNo (kTX "java/lang/IndexOutOfBoundsException" cy S LP rc m) := by
  obtain ⟨hS, hC, hH, hL, hG, hT⟩ := hR
  have hR : Rel m I L R LP rc ln qu lg := ⟨hS, hC, hH, hL, hG, hT⟩
  have hRc := hC.2.2
  have hkk := hI.2.2.2.1
  have hh := hI.2.2.2.2.1
  have hst := hS.2.1
  have hst2 := hst.2
  refine Con_of (by decide +kernel) (Nat.le_of_ble_eq_true rfl) ?_
  refine J_eq (lv' := [(0, .ref (ka S 0 0)), (1, .int x)]) rfl rfl rfl ?_
  refine J_aload_n 0 rfl dX7_isOn_0 ?_
  refine gf_7_10 (n0 _) dX7_isOn_1 ?_
  refine J_iload_n 1 rfl dX7_isOn_4 ?_
  exact cv_7_70 (cells' := 1) (slots' := 6) dX7_isOn_5 (c_X1_numbered_x hst hx) (n1 _) ⟨by decide, by decide⟩ rfl rfl (by decide) (by decide) (Nat.le_of_ble_eq_true rfl) (fun _ _ h => h.elim) (fun E9 w9 h9 => by obtain ⟨rfl, rfl⟩ := h9; exact ⟨rfl, I, L, R, ln, qu, lg, rfl, hR, by omega⟩)

set_option maxRecDepth 20000 in
set_option maxHeartbeats 1000000 in
theorem c_X7_missed_s {cy : Nat → ClassId} {S : Nat → Nat → Nat} {I : kI} {L : kL} {R : kRf} {LP : List Nat} {m : Mu} {rc : Nat → Nat} {ln qu : List Nat} {lg B : Nat} {s : Nat} (hR : Rel m I L R LP rc ln qu lg) (hI : Inv m B) (hB : B < 2 ^ 30) (hlg : lg < 2 ^ 30) (hs : s < mS m) : Con yX7_missed cX7_missed 2 (some .int) 7 0 0 cy [.ref (ka S 0 0), .int (nI s)] (wc cy S I L R LP) (fun r w' => r = some (.int (m.1 46 s)) ∧ RelX cy S LP rc m w') kF := by
  obtain ⟨hS, hC, hH, hL, hG, hT⟩ := hR
  have hR : Rel m I L R LP rc ln qu lg := ⟨hS, hC, hH, hL, hG, hT⟩
  have hRc := hC.2.2
  have hkk := hI.2.2.2.1
  have hh := hI.2.2.2.2.1
  have hst := hS.2.1
  have hst2 := hst.2
  have hs10 : s < 10 := by omega
  obtain ⟨g0, g1, g2⟩ := hS.2.2.2 s hs
  obtain ⟨g3, g4, g5⟩ := hS.2.2.1 s hs10
  refine Con_of (by decide +kernel) (Nat.le_of_ble_eq_true rfl) ?_
  refine J_eq (lv' := [(0, .ref (ka S 0 0)), (1, .int (nI s))]) rfl rfl rfl ?_
  refine J_aload_n 0 rfl dX7_missed_0 ?_
  refine gf_7_10 (n0 _) dX7_missed_1 ?_
  refine J_iload_n 1 rfl dX7_missed_4 ?_
  refine cv_7_70 (cells' := 0) (slots' := 0) dX7_missed_5 (c_X1_numbered_s hst hs) (n1 _) ⟨by decide, by decide⟩ rfl rfl (by decide) (by decide) (Nat.le_of_ble_eq_true rfl) (fun _ _ r1 => ?_) (fun _ _ h => h.elim)
  obtain ⟨rfl, rfl⟩ := r1
  refine J_eq (st' := [.ref (ka S 17 s)]) rfl rfl rfl ?_
  refine gf_7_248 (n17 _ (by omega)) dX7_missed_8 ?_
  refine J_topeq (m.1 46 s) (by exact g5) ?_
  exact J_ireturn rfl (by first | rfl | assumption | simp [kb_nar]) dX7_missed_11 (⟨rfl, I, L, R, ln, qu, lg, rfl, hR, by omega⟩) (by omega) (by omega)

set_option maxRecDepth 20000 in
set_option maxHeartbeats 1000000 in
theorem c_X7_missed_x {cy : Nat → ClassId} {S : Nat → Nat → Nat} {I : kI} {L : kL} {R : kRf} {LP : List Nat} {m : Mu} {rc : Nat → Nat} {ln qu : List Nat} {lg B : Nat} {x : Int32} (hR : Rel m I L R LP rc ln qu lg) (hI : Inv m B) (hB : B < 2 ^ 30) (hlg : lg < 2 ^ 30) (hx : ∀ s, s < mS m → x ≠ nI s) : Con yX7_missed cX7_missed 2 (some .int) 7 1 6 cy [.ref (ka S 0 0), .int x] (wc cy S I L R LP) kNo (kTX "java/lang/IndexOutOfBoundsException" cy S LP rc m) := by
  obtain ⟨hS, hC, hH, hL, hG, hT⟩ := hR
  have hR : Rel m I L R LP rc ln qu lg := ⟨hS, hC, hH, hL, hG, hT⟩
  have hRc := hC.2.2
  have hkk := hI.2.2.2.1
  have hh := hI.2.2.2.2.1
  have hst := hS.2.1
  have hst2 := hst.2
  refine Con_of (by decide +kernel) (Nat.le_of_ble_eq_true rfl) ?_
  refine J_eq (lv' := [(0, .ref (ka S 0 0)), (1, .int x)]) rfl rfl rfl ?_
  refine J_aload_n 0 rfl dX7_missed_0 ?_
  refine gf_7_10 (n0 _) dX7_missed_1 ?_
  refine J_iload_n 1 rfl dX7_missed_4 ?_
  exact cv_7_70 (cells' := 1) (slots' := 6) dX7_missed_5 (c_X1_numbered_x hst hx) (n1 _) ⟨by decide, by decide⟩ rfl rfl (by decide) (by decide) (Nat.le_of_ble_eq_true rfl) (fun _ _ h => h.elim) (fun E9 w9 h9 => by obtain ⟨rfl, rfl⟩ := h9; exact ⟨rfl, I, L, R, ln, qu, lg, rfl, hR, by omega⟩)

set_option maxRecDepth 20000 in
set_option maxHeartbeats 1000000 in
theorem c_X7_stations_s {cy : Nat → ClassId} {S : Nat → Nat → Nat} {I : kI} {L : kL} {R : kRf} {LP : List Nat} {m : Mu} {rc : Nat → Nat} {ln qu : List Nat} {lg B : Nat}  (hR : Rel m I L R LP rc ln qu lg) (hI : Inv m B) (hB : B < 2 ^ 30) (hlg : lg < 2 ^ 30)  : Con yX7_stations cX7_stations 1 (some .int) 0 0 0 cy [.ref (ka S 0 0)] (wc cy S I L R LP) (fun r w' => r = some (.int (m.1 30 0)) ∧ RelX cy S LP rc m w') kF := by
  obtain ⟨hS, hC, hH, hL, hG, hT⟩ := hR
  have hR : Rel m I L R LP rc ln qu lg := ⟨hS, hC, hH, hL, hG, hT⟩
  have hRc := hC.2.2
  have hkk := hI.2.2.2.1
  have hh := hI.2.2.2.2.1
  refine Con_of (by decide +kernel) (Nat.le_of_ble_eq_true rfl) ?_
  refine J_eq (lv' := [(0, .ref (ka S 0 0))]) rfl rfl rfl ?_
  refine J_aload_n 0 rfl dX7_stations_0 ?_
  refine gf_7_10 (n0 _) dX7_stations_1 ?_
  refine gf_7_94 (n1 _) dX7_stations_4 ?_
  refine J_topeq (m.1 30 0) (by exact hS.2.1.1.trans hS.1.symm) ?_
  exact J_ireturn rfl (by first | rfl | assumption | simp [kb_nar]) dX7_stations_7 (⟨rfl, I, L, R, ln, qu, lg, rfl, hR, by omega⟩) (by omega) (by omega)

set_option maxRecDepth 20000 in
set_option maxHeartbeats 1000000 in
theorem c_X7_time_s {cy : Nat → ClassId} {S : Nat → Nat → Nat} {I : kI} {L : kL} {R : kRf} {LP : List Nat} {m : Mu} {rc : Nat → Nat} {ln qu : List Nat} {lg B : Nat}  (hR : Rel m I L R LP rc ln qu lg) (hI : Inv m B) (hB : B < 2 ^ 30) (hlg : lg < 2 ^ 30)  : Con yX7_time cX7_time 1 (some .int) 0 0 0 cy [.ref (ka S 0 0)] (wc cy S I L R LP) (fun r w' => r = some (.int (m.1 30 26)) ∧ RelX cy S LP rc m w') kF := by
  obtain ⟨hS, hC, hH, hL, hG, hT⟩ := hR
  have hR : Rel m I L R LP rc ln qu lg := ⟨hS, hC, hH, hL, hG, hT⟩
  have hRc := hC.2.2
  have hkk := hI.2.2.2.1
  have hh := hI.2.2.2.2.1
  refine Con_of (by decide +kernel) (Nat.le_of_ble_eq_true rfl) ?_
  refine J_eq (lv' := [(0, .ref (ka S 0 0))]) rfl rfl rfl ?_
  refine J_aload_n 0 rfl dX7_time_0 ?_
  refine gf_7_171 (n0 _) dX7_time_1 ?_
  refine J_topeq (m.1 30 26) (by exact hT.1) ?_
  exact J_ireturn rfl (by first | rfl | assumption | simp [kb_nar]) dX7_time_4 (⟨rfl, I, L, R, ln, qu, lg, rfl, hR, by omega⟩) (by omega) (by omega)

set_option maxRecDepth 20000 in
set_option maxHeartbeats 1000000 in
theorem c_X7_calls_s {cy : Nat → ClassId} {S : Nat → Nat → Nat} {I : kI} {L : kL} {R : kRf} {LP : List Nat} {m : Mu} {rc : Nat → Nat} {ln qu : List Nat} {lg B : Nat}  (hR : Rel m I L R LP rc ln qu lg) (hI : Inv m B) (hB : B < 2 ^ 30) (hlg : lg < 2 ^ 30)  : Con yX7_calls cX7_calls 1 (some .int) 0 0 0 cy [.ref (ka S 0 0)] (wc cy S I L R LP) (fun r w' => r = some (.int (m.1 30 10)) ∧ RelX cy S LP rc m w') kF := by
  obtain ⟨hS, hC, hH, hL, hG, hT⟩ := hR
  have hR : Rel m I L R LP rc ln qu lg := ⟨hS, hC, hH, hL, hG, hT⟩
  have hRc := hC.2.2
  have hkk := hI.2.2.2.1
  have hh := hI.2.2.2.2.1
  refine Con_of (by decide +kernel) (Nat.le_of_ble_eq_true rfl) ?_
  refine J_eq (lv' := [(0, .ref (ka S 0 0))]) rfl rfl rfl ?_
  refine J_aload_n 0 rfl dX7_calls_0 ?_
  refine gf_7_147 (n0 _) dX7_calls_1 ?_
  refine J_topeq (m.1 30 10) (by exact hC.2.1.1.trans hC.1.symm) ?_
  exact J_ireturn rfl (by first | rfl | assumption | simp [kb_nar]) dX7_calls_4 (⟨rfl, I, L, R, ln, qu, lg, rfl, hR, by omega⟩) (by omega) (by omega)

set_option maxRecDepth 20000 in
set_option maxHeartbeats 1000000 in
theorem c_X7_waiting_s {cy : Nat → ClassId} {S : Nat → Nat → Nat} {I : kI} {L : kL} {R : kRf} {LP : List Nat} {m : Mu} {rc : Nat → Nat} {ln qu : List Nat} {lg B : Nat}  (hR : Rel m I L R LP rc ln qu lg) (hI : Inv m B) (hB : B < 2 ^ 30) (hlg : lg < 2 ^ 30)  : Con yX7_waiting cX7_waiting 1 (some .int) 0 0 0 cy [.ref (ka S 0 0)] (wc cy S I L R LP) (fun r w' => r = some (.int (nI (mMany m 119))) ∧ RelX cy S LP rc m w') kF := by
  obtain ⟨hS, hC, hH, hL, hG, hT⟩ := hR
  have hR : Rel m I L R LP rc ln qu lg := ⟨hS, hC, hH, hL, hG, hT⟩
  have hRc := hC.2.2
  have hkk := hI.2.2.2.1
  have hh := hI.2.2.2.2.1
  refine Con_of (by decide +kernel) (Nat.le_of_ble_eq_true rfl) ?_
  refine J_eq (lv' := [(0, .ref (ka S 0 0))]) rfl rfl rfl ?_
  refine J_aload_n 0 rfl dX7_waiting_0 ?_
  refine gf_7_19 (n0 _) dX7_waiting_1 ?_
  refine gf_7_213 (n2 _) dX7_waiting_4 ?_
  refine J_topeq (nI (mMany m 119)) (by rw [← ln_len hL]; exact hL.1) ?_
  exact J_ireturn rfl (by first | rfl | assumption | simp [kb_nar]) dX7_waiting_7 (⟨rfl, I, L, R, ln, qu, lg, rfl, hR, by omega⟩) (by omega) (by omega)

set_option maxRecDepth 20000 in
set_option maxHeartbeats 1000000 in
theorem c_X7_stateOf_s {cy : Nat → ClassId} {S : Nat → Nat → Nat} {I : kI} {L : kL} {R : kRf} {LP : List Nat} {m : Mu} {rc : Nat → Nat} {ln qu : List Nat} {lg B : Nat} {i : Nat} (hR : Rel m I L R LP rc ln qu lg) (hI : Inv m B) (hB : B < 2 ^ 30) (hlg : lg < 2 ^ 30) (hi : i < mC m) : Con yX7_stateOf cX7_stateOf 2 (some .char) 8 0 0 cy [.ref (ka S 0 0), .int (nI i)] (wc cy S I L R LP) (fun r w' => r = some (.int (m.1 55 i)) ∧ RelX cy S LP rc m w') kF := by
  obtain ⟨hS, hC, hH, hL, hG, hT⟩ := hR
  have hR : Rel m I L R LP rc ln qu lg := ⟨hS, hC, hH, hL, hG, hT⟩
  have hRc := hC.2.2
  have hkk := hI.2.2.2.1
  have hh := hI.2.2.2.2.1
  obtain ⟨a0, a1, a2, a3, a4, a5, a6, a7, a8, a9⟩ := (hRc i hi).1
  have ha : rc i ∈ LP := (hC.2.1.2.2 i hi).2
  have hnr := nar_st (hkk i hi).2.2
  refine Con_of (by decide +kernel) (Nat.le_of_ble_eq_true rfl) ?_
  refine J_eq (lv' := [(0, .ref (ka S 0 0)), (1, .int (nI i))]) rfl rfl rfl ?_
  refine J_aload_n 0 rfl dX7_stateOf_0 ?_
  refine J_iload_n 1 rfl dX7_stateOf_1 ?_
  refine cv_7_153 (cells' := 0) (slots' := 0) dX7_stateOf_2 (c_X7_callNumbered_s hC.2.1 hi) (n0 _) ⟨by decide, by decide⟩ rfl rfl (by decide) (by decide) (Nat.le_of_ble_eq_true rfl) (fun _ _ r1 => ?_) (fun _ _ h => h.elim)
  obtain ⟨rfl, rfl⟩ := r1
  refine J_eq (st' := [.ref (rc i)]) rfl rfl rfl ?_
  refine gf_7_161 (n20 (by assumption)) dX7_stateOf_5 ?_
  refine J_topeq (m.1 55 i) (by exact a7) ?_
  exact J_ireturn rfl (by first | rfl | assumption | simp [kb_nar]) dX7_stateOf_8 (⟨rfl, I, L, R, ln, qu, lg, rfl, hR, by omega⟩) (by omega) (by omega)

set_option maxRecDepth 20000 in
set_option maxHeartbeats 1000000 in
theorem c_X7_stateOf_x {cy : Nat → ClassId} {S : Nat → Nat → Nat} {I : kI} {L : kL} {R : kRf} {LP : List Nat} {m : Mu} {rc : Nat → Nat} {ln qu : List Nat} {lg B : Nat} {x : Int32} (hR : Rel m I L R LP rc ln qu lg) (hI : Inv m B) (hB : B < 2 ^ 30) (hlg : lg < 2 ^ 30) (hx : ∀ s, s < mC m → x ≠ nI s) : Con yX7_stateOf cX7_stateOf 2 (some .char) 8 1 6 cy [.ref (ka S 0 0), .int x] (wc cy S I L R LP) kNo (kTX "java/util/NoSuchElementException" cy S LP rc m) := by
  obtain ⟨hS, hC, hH, hL, hG, hT⟩ := hR
  have hR : Rel m I L R LP rc ln qu lg := ⟨hS, hC, hH, hL, hG, hT⟩
  have hRc := hC.2.2
  have hkk := hI.2.2.2.1
  have hh := hI.2.2.2.2.1
  refine Con_of (by decide +kernel) (Nat.le_of_ble_eq_true rfl) ?_
  refine J_eq (lv' := [(0, .ref (ka S 0 0)), (1, .int x)]) rfl rfl rfl ?_
  refine J_aload_n 0 rfl dX7_stateOf_0 ?_
  refine J_iload_n 1 rfl dX7_stateOf_1 ?_
  exact cv_7_153 (cells' := 1) (slots' := 6) dX7_stateOf_2 (c_X7_callNumbered_x hC.2.1 hx) (n0 _) ⟨by decide, by decide⟩ rfl rfl (by decide) (by decide) (Nat.le_of_ble_eq_true rfl) (fun _ _ h => h.elim) (fun E9 w9 h9 => by obtain ⟨rfl, rfl⟩ := h9; exact ⟨rfl, I, L, R, ln, qu, lg, rfl, hR, by omega⟩)

set_option maxRecDepth 20000 in
set_option maxHeartbeats 1000000 in
theorem c_X7_urgencyOf_s {cy : Nat → ClassId} {S : Nat → Nat → Nat} {I : kI} {L : kL} {R : kRf} {LP : List Nat} {m : Mu} {rc : Nat → Nat} {ln qu : List Nat} {lg B : Nat} {i : Nat} (hR : Rel m I L R LP rc ln qu lg) (hI : Inv m B) (hB : B < 2 ^ 30) (hlg : lg < 2 ^ 30) (hi : i < mC m) : Con yX7_urgencyOf cX7_urgencyOf 2 (some .char) 8 0 0 cy [.ref (ka S 0 0), .int (nI i)] (wc cy S I L R LP) (fun r w' => r = some (.int (m.1 53 i)) ∧ RelX cy S LP rc m w') kF := by
  obtain ⟨hS, hC, hH, hL, hG, hT⟩ := hR
  have hR : Rel m I L R LP rc ln qu lg := ⟨hS, hC, hH, hL, hG, hT⟩
  have hRc := hC.2.2
  have hkk := hI.2.2.2.1
  have hh := hI.2.2.2.2.1
  obtain ⟨a0, a1, a2, a3, a4, a5, a6, a7, a8, a9⟩ := (hRc i hi).1
  have ha : rc i ∈ LP := (hC.2.1.2.2 i hi).2
  have hnr := nar_ch (hkk i hi).2.1
  refine Con_of (by decide +kernel) (Nat.le_of_ble_eq_true rfl) ?_
  refine J_eq (lv' := [(0, .ref (ka S 0 0)), (1, .int (nI i))]) rfl rfl rfl ?_
  refine J_aload_n 0 rfl dX7_urgencyOf_0 ?_
  refine J_iload_n 1 rfl dX7_urgencyOf_1 ?_
  refine cv_7_153 (cells' := 0) (slots' := 0) dX7_urgencyOf_2 (c_X7_callNumbered_s hC.2.1 hi) (n0 _) ⟨by decide, by decide⟩ rfl rfl (by decide) (by decide) (Nat.le_of_ble_eq_true rfl) (fun _ _ r1 => ?_) (fun _ _ h => h.elim)
  obtain ⟨rfl, rfl⟩ := r1
  refine J_eq (st' := [.ref (rc i)]) rfl rfl rfl ?_
  refine gf_7_188 (n20 (by assumption)) dX7_urgencyOf_5 ?_
  refine J_topeq (m.1 53 i) (by exact a4) ?_
  exact J_ireturn rfl (by first | rfl | assumption | simp [kb_nar]) dX7_urgencyOf_8 (⟨rfl, I, L, R, ln, qu, lg, rfl, hR, by omega⟩) (by omega) (by omega)

set_option maxRecDepth 20000 in
set_option maxHeartbeats 1000000 in
theorem c_X7_urgencyOf_x {cy : Nat → ClassId} {S : Nat → Nat → Nat} {I : kI} {L : kL} {R : kRf} {LP : List Nat} {m : Mu} {rc : Nat → Nat} {ln qu : List Nat} {lg B : Nat} {x : Int32} (hR : Rel m I L R LP rc ln qu lg) (hI : Inv m B) (hB : B < 2 ^ 30) (hlg : lg < 2 ^ 30) (hx : ∀ s, s < mC m → x ≠ nI s) : Con yX7_urgencyOf cX7_urgencyOf 2 (some .char) 8 1 6 cy [.ref (ka S 0 0), .int x] (wc cy S I L R LP) kNo (kTX "java/util/NoSuchElementException" cy S LP rc m) := by
  obtain ⟨hS, hC, hH, hL, hG, hT⟩ := hR
  have hR : Rel m I L R LP rc ln qu lg := ⟨hS, hC, hH, hL, hG, hT⟩
  have hRc := hC.2.2
  have hkk := hI.2.2.2.1
  have hh := hI.2.2.2.2.1
  refine Con_of (by decide +kernel) (Nat.le_of_ble_eq_true rfl) ?_
  refine J_eq (lv' := [(0, .ref (ka S 0 0)), (1, .int x)]) rfl rfl rfl ?_
  refine J_aload_n 0 rfl dX7_urgencyOf_0 ?_
  refine J_iload_n 1 rfl dX7_urgencyOf_1 ?_
  exact cv_7_153 (cells' := 1) (slots' := 6) dX7_urgencyOf_2 (c_X7_callNumbered_x hC.2.1 hx) (n0 _) ⟨by decide, by decide⟩ rfl rfl (by decide) (by decide) (Nat.le_of_ble_eq_true rfl) (fun _ _ h => h.elim) (fun E9 w9 h9 => by obtain ⟨rfl, rfl⟩ := h9; exact ⟨rfl, I, L, R, ln, qu, lg, rfl, hR, by omega⟩)

set_option maxRecDepth 20000 in
set_option maxHeartbeats 1000000 in
theorem c_X7_leftOf_s {cy : Nat → ClassId} {S : Nat → Nat → Nat} {I : kI} {L : kL} {R : kRf} {LP : List Nat} {m : Mu} {rc : Nat → Nat} {ln qu : List Nat} {lg B : Nat} {i : Nat} (hR : Rel m I L R LP rc ln qu lg) (hI : Inv m B) (hB : B < 2 ^ 30) (hlg : lg < 2 ^ 30) (hi : i < mC m) : Con yX7_leftOf cX7_leftOf 2 (some .int) 8 0 0 cy [.ref (ka S 0 0), .int (nI i)] (wc cy S I L R LP) (fun r w' => r = some (.int (m.1 54 i)) ∧ RelX cy S LP rc m w') kF := by
  obtain ⟨hS, hC, hH, hL, hG, hT⟩ := hR
  have hR : Rel m I L R LP rc ln qu lg := ⟨hS, hC, hH, hL, hG, hT⟩
  have hRc := hC.2.2
  have hkk := hI.2.2.2.1
  have hh := hI.2.2.2.2.1
  obtain ⟨a0, a1, a2, a3, a4, a5, a6, a7, a8, a9⟩ := (hRc i hi).1
  have ha : rc i ∈ LP := (hC.2.1.2.2 i hi).2
  refine Con_of (by decide +kernel) (Nat.le_of_ble_eq_true rfl) ?_
  refine J_eq (lv' := [(0, .ref (ka S 0 0)), (1, .int (nI i))]) rfl rfl rfl ?_
  refine J_aload_n 0 rfl dX7_leftOf_0 ?_
  refine J_iload_n 1 rfl dX7_leftOf_1 ?_
  refine cv_7_153 (cells' := 0) (slots' := 0) dX7_leftOf_2 (c_X7_callNumbered_s hC.2.1 hi) (n0 _) ⟨by decide, by decide⟩ rfl rfl (by decide) (by decide) (Nat.le_of_ble_eq_true rfl) (fun _ _ r1 => ?_) (fun _ _ h => h.elim)
  obtain ⟨rfl, rfl⟩ := r1
  refine J_eq (st' := [.ref (rc i)]) rfl rfl rfl ?_
  refine gf_7_178 (n20 (by assumption)) dX7_leftOf_5 ?_
  refine J_topeq (m.1 54 i) (by exact a6) ?_
  exact J_ireturn rfl (by first | rfl | assumption | simp [kb_nar]) dX7_leftOf_8 (⟨rfl, I, L, R, ln, qu, lg, rfl, hR, by omega⟩) (by omega) (by omega)

set_option maxRecDepth 20000 in
set_option maxHeartbeats 1000000 in
theorem c_X7_leftOf_x {cy : Nat → ClassId} {S : Nat → Nat → Nat} {I : kI} {L : kL} {R : kRf} {LP : List Nat} {m : Mu} {rc : Nat → Nat} {ln qu : List Nat} {lg B : Nat} {x : Int32} (hR : Rel m I L R LP rc ln qu lg) (hI : Inv m B) (hB : B < 2 ^ 30) (hlg : lg < 2 ^ 30) (hx : ∀ s, s < mC m → x ≠ nI s) : Con yX7_leftOf cX7_leftOf 2 (some .int) 8 1 6 cy [.ref (ka S 0 0), .int x] (wc cy S I L R LP) kNo (kTX "java/util/NoSuchElementException" cy S LP rc m) := by
  obtain ⟨hS, hC, hH, hL, hG, hT⟩ := hR
  have hR : Rel m I L R LP rc ln qu lg := ⟨hS, hC, hH, hL, hG, hT⟩
  have hRc := hC.2.2
  have hkk := hI.2.2.2.1
  have hh := hI.2.2.2.2.1
  refine Con_of (by decide +kernel) (Nat.le_of_ble_eq_true rfl) ?_
  refine J_eq (lv' := [(0, .ref (ka S 0 0)), (1, .int x)]) rfl rfl rfl ?_
  refine J_aload_n 0 rfl dX7_leftOf_0 ?_
  refine J_iload_n 1 rfl dX7_leftOf_1 ?_
  exact cv_7_153 (cells' := 1) (slots' := 6) dX7_leftOf_2 (c_X7_callNumbered_x hC.2.1 hx) (n0 _) ⟨by decide, by decide⟩ rfl rfl (by decide) (by decide) (Nat.le_of_ble_eq_true rfl) (fun _ _ h => h.elim) (fun E9 w9 h9 => by obtain ⟨rfl, rfl⟩ := h9; exact ⟨rfl, I, L, R, ln, qu, lg, rfl, hR, by omega⟩)

set_option maxRecDepth 20000 in
set_option maxHeartbeats 1000000 in
theorem c_X7_interruptions_s {cy : Nat → ClassId} {S : Nat → Nat → Nat} {I : kI} {L : kL} {R : kRf} {LP : List Nat} {m : Mu} {rc : Nat → Nat} {ln qu : List Nat} {lg B : Nat} {i : Nat} (hR : Rel m I L R LP rc ln qu lg) (hI : Inv m B) (hB : B < 2 ^ 30) (hlg : lg < 2 ^ 30) (hi : i < mC m) : Con yX7_interruptions cX7_interruptions 2 (some .int) 8 0 0 cy [.ref (ka S 0 0), .int (nI i)] (wc cy S I L R LP) (fun r w' => r = some (.int (m.1 59 i)) ∧ RelX cy S LP rc m w') kF := by
  obtain ⟨hS, hC, hH, hL, hG, hT⟩ := hR
  have hR : Rel m I L R LP rc ln qu lg := ⟨hS, hC, hH, hL, hG, hT⟩
  have hRc := hC.2.2
  have hkk := hI.2.2.2.1
  have hh := hI.2.2.2.2.1
  obtain ⟨a0, a1, a2, a3, a4, a5, a6, a7, a8, a9⟩ := (hRc i hi).1
  have ha : rc i ∈ LP := (hC.2.1.2.2 i hi).2
  refine Con_of (by decide +kernel) (Nat.le_of_ble_eq_true rfl) ?_
  refine J_eq (lv' := [(0, .ref (ka S 0 0)), (1, .int (nI i))]) rfl rfl rfl ?_
  refine J_aload_n 0 rfl dX7_interruptions_0 ?_
  refine J_iload_n 1 rfl dX7_interruptions_1 ?_
  refine cv_7_153 (cells' := 0) (slots' := 0) dX7_interruptions_2 (c_X7_callNumbered_s hC.2.1 hi) (n0 _) ⟨by decide, by decide⟩ rfl rfl (by decide) (by decide) (Nat.le_of_ble_eq_true rfl) (fun _ _ r1 => ?_) (fun _ _ h => h.elim)
  obtain ⟨rfl, rfl⟩ := r1
  refine J_eq (st' := [.ref (rc i)]) rfl rfl rfl ?_
  refine gf_7_203 (n20 (by assumption)) dX7_interruptions_5 ?_
  refine J_topeq (m.1 59 i) (by exact a8) ?_
  exact J_ireturn rfl (by first | rfl | assumption | simp [kb_nar]) dX7_interruptions_8 (⟨rfl, I, L, R, ln, qu, lg, rfl, hR, by omega⟩) (by omega) (by omega)

set_option maxRecDepth 20000 in
set_option maxHeartbeats 1000000 in
theorem c_X7_interruptions_x {cy : Nat → ClassId} {S : Nat → Nat → Nat} {I : kI} {L : kL} {R : kRf} {LP : List Nat} {m : Mu} {rc : Nat → Nat} {ln qu : List Nat} {lg B : Nat} {x : Int32} (hR : Rel m I L R LP rc ln qu lg) (hI : Inv m B) (hB : B < 2 ^ 30) (hlg : lg < 2 ^ 30) (hx : ∀ s, s < mC m → x ≠ nI s) : Con yX7_interruptions cX7_interruptions 2 (some .int) 8 1 6 cy [.ref (ka S 0 0), .int x] (wc cy S I L R LP) kNo (kTX "java/util/NoSuchElementException" cy S LP rc m) := by
  obtain ⟨hS, hC, hH, hL, hG, hT⟩ := hR
  have hR : Rel m I L R LP rc ln qu lg := ⟨hS, hC, hH, hL, hG, hT⟩
  have hRc := hC.2.2
  have hkk := hI.2.2.2.1
  have hh := hI.2.2.2.2.1
  refine Con_of (by decide +kernel) (Nat.le_of_ble_eq_true rfl) ?_
  refine J_eq (lv' := [(0, .ref (ka S 0 0)), (1, .int x)]) rfl rfl rfl ?_
  refine J_aload_n 0 rfl dX7_interruptions_0 ?_
  refine J_iload_n 1 rfl dX7_interruptions_1 ?_
  exact cv_7_153 (cells' := 1) (slots' := 6) dX7_interruptions_2 (c_X7_callNumbered_x hC.2.1 hx) (n0 _) ⟨by decide, by decide⟩ rfl rfl (by decide) (by decide) (Nat.le_of_ble_eq_true rfl) (fun _ _ h => h.elim) (fun E9 w9 h9 => by obtain ⟨rfl, rfl⟩ := h9; exact ⟨rfl, I, L, R, ln, qu, lg, rfl, hR, by omega⟩)

set_option maxRecDepth 20000 in
set_option maxHeartbeats 1000000 in
theorem c_X7_channelOf_s {cy : Nat → ClassId} {S : Nat → Nat → Nat} {I : kI} {L : kL} {R : kRf} {LP : List Nat} {m : Mu} {rc : Nat → Nat} {ln qu : List Nat} {lg B : Nat} {i : Nat} (hR : Rel m I L R LP rc ln qu lg) (hI : Inv m B) (hB : B < 2 ^ 30) (hlg : lg < 2 ^ 30) (hi : i < mC m) (hsp : m.1 55 i = 115) : Con yX7_channelOf cX7_channelOf 3 (some .int) 8 0 0 cy [.ref (ka S 0 0), .int (nI i)] (wc cy S I L R LP) (fun r w' => r = some (.int (m.1 56 i)) ∧ RelX cy S LP rc m w') kF := by
  obtain ⟨hS, hC, hH, hL, hG, hT⟩ := hR
  have hR : Rel m I L R LP rc ln qu lg := ⟨hS, hC, hH, hL, hG, hT⟩
  have hRc := hC.2.2
  have hkk := hI.2.2.2.1
  have hh := hI.2.2.2.2.1
  obtain ⟨a0, a1, a2, a3, a4, a5, a6, a7, a8, a9⟩ := (hRc i hi).1
  have ha : rc i ∈ LP := (hC.2.1.2.2 i hi).2
  have hb := (hRc i hi).2 (by unfold mSpk; exact decide_eq_true hsp)
  refine Con_of (by decide +kernel) (Nat.le_of_ble_eq_true rfl) ?_
  refine J_eq (lv' := [(0, .ref (ka S 0 0)), (1, .int (nI i))]) rfl rfl rfl ?_
  refine J_aload_n 0 rfl dX7_channelOf_0 ?_
  refine J_iload_n 1 rfl dX7_channelOf_1 ?_
  refine cv_7_153 (cells' := 0) (slots' := 0) dX7_channelOf_2 (c_X7_callNumbered_s hC.2.1 hi) (n0 _) ⟨by decide, by decide⟩ rfl rfl (by decide) (by decide) (Nat.le_of_ble_eq_true rfl) (fun _ _ r1 => ?_) (fun _ _ h => h.elim)
  obtain ⟨rfl, rfl⟩ := r1
  refine J_eq (st' := [.ref (rc i)]) rfl rfl rfl ?_
  refine J_astore_n (lv' := [(0, .ref (ka S 0 0)), (1, .int (nI i)), (2, .ref (rc i))]) (by decide) rfl dX7_channelOf_5 ?_
  refine J_aload_n 2 rfl dX7_channelOf_6 ?_
  refine gf_7_161 (n20 (by assumption)) dX7_channelOf_7 ?_
  refine J_topeq (m.1 55 i) (by exact a7) ?_
  refine J_bipush (v := 115) (by decide) dX7_channelOf_10 ?_
  refine J_icmp_eq 25 (by decide) dX7_channelOf_12 (fun c2 => ?_) (fun c2 => ?_)
  rotate_left
  · exfalso
    exact c2 hsp
  refine J_aload_n 2 rfl dX7_channelOf_25 ?_
  refine gf_7_200 (n20 (by assumption)) dX7_channelOf_26 ?_
  refine J_topeq (m.1 56 i) (by exact hb.1) ?_
  exact J_ireturn rfl (by first | rfl | assumption | simp [kb_nar]) dX7_channelOf_29 (⟨rfl, I, L, R, ln, qu, lg, rfl, hR, by omega⟩) (by omega) (by omega)

set_option maxRecDepth 20000 in
set_option maxHeartbeats 1000000 in
theorem c_X7_channelOf_x {cy : Nat → ClassId} {S : Nat → Nat → Nat} {I : kI} {L : kL} {R : kRf} {LP : List Nat} {m : Mu} {rc : Nat → Nat} {ln qu : List Nat} {lg B : Nat} {x : Int32} (hR : Rel m I L R LP rc ln qu lg) (hI : Inv m B) (hB : B < 2 ^ 30) (hlg : lg < 2 ^ 30) (hx : ∀ s, s < mC m → x ≠ nI s) : Con yX7_channelOf cX7_channelOf 3 (some .int) 8 1 6 cy [.ref (ka S 0 0), .int x] (wc cy S I L R LP) kNo (kTX "java/util/NoSuchElementException" cy S LP rc m) := by
  obtain ⟨hS, hC, hH, hL, hG, hT⟩ := hR
  have hR : Rel m I L R LP rc ln qu lg := ⟨hS, hC, hH, hL, hG, hT⟩
  have hRc := hC.2.2
  have hkk := hI.2.2.2.1
  have hh := hI.2.2.2.2.1
  refine Con_of (by decide +kernel) (Nat.le_of_ble_eq_true rfl) ?_
  refine J_eq (lv' := [(0, .ref (ka S 0 0)), (1, .int x)]) rfl rfl rfl ?_
  refine J_aload_n 0 rfl dX7_channelOf_0 ?_
  refine J_iload_n 1 rfl dX7_channelOf_1 ?_
  exact cv_7_153 (cells' := 1) (slots' := 6) dX7_channelOf_2 (c_X7_callNumbered_x hC.2.1 hx) (n0 _) ⟨by decide, by decide⟩ rfl rfl (by decide) (by decide) (Nat.le_of_ble_eq_true rfl) (fun _ _ h => h.elim) (fun E9 w9 h9 => by obtain ⟨rfl, rfl⟩ := h9; exact ⟨rfl, I, L, R, ln, qu, lg, rfl, hR, by omega⟩)

set_option maxRecDepth 20000 in
set_option maxHeartbeats 1000000 in
theorem c_X7_channelOf_y {cy : Nat → ClassId} {S : Nat → Nat → Nat} {I : kI} {L : kL} {R : kRf} {LP : List Nat} {m : Mu} {rc : Nat → Nat} {ln qu : List Nat} {lg B : Nat} {i : Nat} (hR : Rel m I L R LP rc ln qu lg) (hI : Inv m B) (hB : B < 2 ^ 30) (hlg : lg < 2 ^ 30) (hi : i < mC m) (hsp : m.1 55 i ≠ 115) : Con yX7_channelOf cX7_channelOf 3 (some .int) 8 1 6 cy [.ref (ka S 0 0), .int (nI i)] (wc cy S I L R LP) kNo (kTX "java/lang/IllegalStateException" cy S LP rc m) := by
  obtain ⟨hS, hC, hH, hL, hG, hT⟩ := hR
  have hR : Rel m I L R LP rc ln qu lg := ⟨hS, hC, hH, hL, hG, hT⟩
  have hRc := hC.2.2
  have hkk := hI.2.2.2.1
  have hh := hI.2.2.2.2.1
  obtain ⟨a0, a1, a2, a3, a4, a5, a6, a7, a8, a9⟩ := (hRc i hi).1
  have ha : rc i ∈ LP := (hC.2.1.2.2 i hi).2
  refine Con_of (by decide +kernel) (Nat.le_of_ble_eq_true rfl) ?_
  refine J_eq (lv' := [(0, .ref (ka S 0 0)), (1, .int (nI i))]) rfl rfl rfl ?_
  refine J_aload_n 0 rfl dX7_channelOf_0 ?_
  refine J_iload_n 1 rfl dX7_channelOf_1 ?_
  refine cv_7_153 (cells' := 0) (slots' := 0) dX7_channelOf_2 (c_X7_callNumbered_s hC.2.1 hi) (n0 _) ⟨by decide, by decide⟩ rfl rfl (by decide) (by decide) (Nat.le_of_ble_eq_true rfl) (fun _ _ r1 => ?_) (fun _ _ h => h.elim)
  obtain ⟨rfl, rfl⟩ := r1
  refine J_eq (st' := [.ref (rc i)]) rfl rfl rfl ?_
  refine J_astore_n (lv' := [(0, .ref (ka S 0 0)), (1, .int (nI i)), (2, .ref (rc i))]) (by decide) rfl dX7_channelOf_5 ?_
  refine J_aload_n 2 rfl dX7_channelOf_6 ?_
  refine gf_7_161 (n20 (by assumption)) dX7_channelOf_7 ?_
  refine J_topeq (m.1 55 i) (by exact a7) ?_
  refine J_bipush (v := 115) (by decide) dX7_channelOf_10 ?_
  refine J_icmp_eq 25 (by decide) dX7_channelOf_12 (fun c2 => ?_) (fun c2 => ?_)
  · exfalso
    exact hsp c2
  exact J_throw (E := "java/lang/IllegalStateException") (text := "the call does not speak") (ik := 58) (is := 198) (ic := 62) exc_IllegalStateException (by decide +kernel) cl_7_58 ini_IllegalStateException at_7_62 fit_IllegalStateException (⟨rfl, I, L, R, ln, qu, lg, rfl, hR, by omega⟩) (by decide) (Nat.le_of_ble_eq_true rfl) (by decide) (by decide) dX7_channelOf_15 dX7_channelOf_18 dX7_channelOf_19 dX7_channelOf_21 dX7_channelOf_24

set_option maxRecDepth 20000 in
set_option maxHeartbeats 1000000 in
theorem c_X7_speakerOn_s {cy : Nat → ClassId} {S : Nat → Nat → Nat} {I : kI} {L : kL} {R : kRf} {LP : List Nat} {m : Mu} {rc : Nat → Nat} {ln qu : List Nat} {lg B : Nat} {h c : Nat} (hR : Rel m I L R LP rc ln qu lg) (hI : Inv m B) (hB : B < 2 ^ 30) (hlg : lg < 2 ^ 30) (hh3 : h < 3) (hm : mOn m h = some c) : Con yX7_speakerOn cX7_speakerOn 2 (some .int) 7 0 0 cy [.ref (ka S 0 0), .int (nI h)] (wc cy S I L R LP) (fun r w' => r = some (.int (nI c)) ∧ RelX cy S LP rc m w') kF := by
  obtain ⟨hS, hC, hH, hL, hG, hT⟩ := hR
  have hR : Rel m I L R LP rc ln qu lg := ⟨hS, hC, hH, hL, hG, hT⟩
  have hRc := hC.2.2
  have hkk := hI.2.2.2.1
  have hh := hI.2.2.2.2.1
  have e14 := hH.1 h hh3
  have hspk : spkF R (nI h) = R 14 0 h := by
    unfold spkF
    rw [if_pos ⟨nI_pos' (by omega), (nI_ltI (b := 3) (by omega) (by decide)).mpr hh3⟩, nI_toNat (by omega)]
  have hc := mOn_lt hm
  have ha : rc c ∈ LP := (hC.2.1.2.2 c hc).2
  rw [hm] at e14
  refine Con_of (by decide +kernel) (Nat.le_of_ble_eq_true rfl) ?_
  refine J_eq (lv' := [(0, .ref (ka S 0 0)), (1, .int (nI h))]) rfl rfl rfl ?_
  refine J_iload_n 1 rfl dX7_speakerOn_0 ?_
  refine cv_7_206 (i := 0) (cells' := 0) (slots' := 0) dX7_speakerOn_1 (c_X7_checkChannel_s hh3) ⟨by decide, by decide⟩ rfl rfl (by decide) (by decide) (Nat.le_of_ble_eq_true rfl) (fun _ _ r1 => ?_) (fun _ _ h => h.elim)
  obtain ⟨rfl, rfl⟩ := r1
  refine J_eq (st' := []) rfl rfl rfl ?_
  refine J_aload_n 0 rfl dX7_speakerOn_4 ?_
  refine gf_7_26 (n0 _) dX7_speakerOn_5 ?_
  refine J_iload_n 1 rfl dX7_speakerOn_8 ?_
  refine cv_7_210 (cells' := 0) (slots' := 0) dX7_speakerOn_9 (c_X0_speaker (hH.inLP hC)) (n3 _) ⟨by decide, by decide⟩ rfl rfl (by decide) (by decide) (Nat.le_of_ble_eq_true rfl) (fun _ _ r2 => ?_) (fun _ _ h => h.elim)
  obtain ⟨rfl, rfl⟩ := r2
  refine J_eq (st' := [va_rf (spkF R (nI h))]) rfl rfl rfl ?_
  refine J_topv (v' := .ref (rc c)) (by first | rfl | (rw [hspk, e14]; rfl)) ?_
  refine cv_7_105 (i := 0) (cells' := 0) (slots' := 0) dX7_speakerOn_12 (c_X7_existing_s) ⟨by decide, by decide⟩ rfl rfl (by decide) (by decide) (Nat.le_of_ble_eq_true rfl) (fun _ _ r3 => ?_) (fun _ _ h => h.elim)
  obtain ⟨rfl, rfl⟩ := r3
  refine J_eq (st' := [.ref (rc c)]) rfl rfl rfl ?_
  refine gf_7_109 (n20 (by assumption)) dX7_speakerOn_15 ?_
  refine J_topeq (nI c) (by exact (hRc c hc).1.1) ?_
  exact J_ireturn rfl (by first | rfl | assumption | simp [kb_nar]) dX7_speakerOn_18 (⟨rfl, I, L, R, ln, qu, lg, rfl, hR, by omega⟩) (by omega) (by omega)

set_option maxRecDepth 20000 in
set_option maxHeartbeats 1000000 in
theorem c_X7_speakerOn_n {cy : Nat → ClassId} {S : Nat → Nat → Nat} {I : kI} {L : kL} {R : kRf} {LP : List Nat} {m : Mu} {rc : Nat → Nat} {ln qu : List Nat} {lg B : Nat} {h : Nat} (hR : Rel m I L R LP rc ln qu lg) (hI : Inv m B) (hB : B < 2 ^ 30) (hlg : lg < 2 ^ 30) (hh3 : h < 3) (hm : mOn m h = none) : Con yX7_speakerOn cX7_speakerOn 2 (some .int) 7 1 6 cy [.ref (ka S 0 0), .int (nI h)] (wc cy S I L R LP) kNo (kTX "java/util/NoSuchElementException" cy S LP rc m) := by
  obtain ⟨hS, hC, hH, hL, hG, hT⟩ := hR
  have hR : Rel m I L R LP rc ln qu lg := ⟨hS, hC, hH, hL, hG, hT⟩
  have hRc := hC.2.2
  have hkk := hI.2.2.2.1
  have hh := hI.2.2.2.2.1
  have e14 := hH.1 h hh3
  have hspk : spkF R (nI h) = R 14 0 h := by
    unfold spkF
    rw [if_pos ⟨nI_pos' (by omega), (nI_ltI (b := 3) (by omega) (by decide)).mpr hh3⟩, nI_toNat (by omega)]
  rw [hm] at e14
  refine Con_of (by decide +kernel) (Nat.le_of_ble_eq_true rfl) ?_
  refine J_eq (lv' := [(0, .ref (ka S 0 0)), (1, .int (nI h))]) rfl rfl rfl ?_
  refine J_iload_n 1 rfl dX7_speakerOn_0 ?_
  refine cv_7_206 (i := 0) (cells' := 0) (slots' := 0) dX7_speakerOn_1 (c_X7_checkChannel_s hh3) ⟨by decide, by decide⟩ rfl rfl (by decide) (by decide) (Nat.le_of_ble_eq_true rfl) (fun _ _ r1 => ?_) (fun _ _ h => h.elim)
  obtain ⟨rfl, rfl⟩ := r1
  refine J_eq (st' := []) rfl rfl rfl ?_
  refine J_aload_n 0 rfl dX7_speakerOn_4 ?_
  refine gf_7_26 (n0 _) dX7_speakerOn_5 ?_
  refine J_iload_n 1 rfl dX7_speakerOn_8 ?_
  refine cv_7_210 (cells' := 0) (slots' := 0) dX7_speakerOn_9 (c_X0_speaker (hH.inLP hC)) (n3 _) ⟨by decide, by decide⟩ rfl rfl (by decide) (by decide) (Nat.le_of_ble_eq_true rfl) (fun _ _ r2 => ?_) (fun _ _ h => h.elim)
  obtain ⟨rfl, rfl⟩ := r2
  refine J_eq (st' := [va_rf (spkF R (nI h))]) rfl rfl rfl ?_
  refine J_topv (v' := .null) (by first | rfl | (rw [hspk, e14]; rfl)) ?_
  exact cv_7_105 (i := 0) (cells' := 1) (slots' := 6) dX7_speakerOn_12 (c_X7_existing_n) ⟨by decide, by decide⟩ rfl rfl (by decide) (by decide) (Nat.le_of_ble_eq_true rfl) (fun _ _ h => h.elim) (fun E9 w9 h9 => by obtain ⟨rfl, rfl⟩ := h9; exact ⟨rfl, I, L, R, ln, qu, lg, rfl, hR, by omega⟩)

set_option maxRecDepth 20000 in
set_option maxHeartbeats 1000000 in
theorem c_X7_speakerOn_x {cy : Nat → ClassId} {S : Nat → Nat → Nat} {I : kI} {L : kL} {R : kRf} {LP : List Nat} {m : Mu} {rc : Nat → Nat} {ln qu : List Nat} {lg B : Nat} {x : Int32} (hR : Rel m I L R LP rc ln qu lg) (hI : Inv m B) (hB : B < 2 ^ 30) (hlg : lg < 2 ^ 30) (hx : ∀ s, s < 3 → x ≠ nI s) : Con yX7_speakerOn cX7_speakerOn 2 (some .int) 7 1 6 cy [.ref (ka S 0 0), .int x] (wc cy S I L R LP) kNo (kTX "java/lang/IndexOutOfBoundsException" cy S LP rc m) := by
  obtain ⟨hS, hC, hH, hL, hG, hT⟩ := hR
  have hR : Rel m I L R LP rc ln qu lg := ⟨hS, hC, hH, hL, hG, hT⟩
  have hRc := hC.2.2
  have hkk := hI.2.2.2.1
  have hh := hI.2.2.2.2.1
  refine Con_of (by decide +kernel) (Nat.le_of_ble_eq_true rfl) ?_
  refine J_eq (lv' := [(0, .ref (ka S 0 0)), (1, .int x)]) rfl rfl rfl ?_
  refine J_iload_n 1 rfl dX7_speakerOn_0 ?_
  exact cv_7_206 (i := 0) (cells' := 1) (slots' := 6) dX7_speakerOn_1 (c_X7_checkChannel_x hx) ⟨by decide, by decide⟩ rfl rfl (by decide) (by decide) (Nat.le_of_ble_eq_true rfl) (fun _ _ h => h.elim) (fun E9 w9 h9 => by obtain ⟨rfl, rfl⟩ := h9; exact ⟨rfl, I, L, R, ln, qu, lg, rfl, hR, by omega⟩)

set_option maxRecDepth 20000 in
set_option maxHeartbeats 1000000 in
theorem c_X7_busyWith_s {cy : Nat → ClassId} {S : Nat → Nat → Nat} {I : kI} {L : kL} {R : kRf} {LP : List Nat} {m : Mu} {rc : Nat → Nat} {ln qu : List Nat} {lg B : Nat} {s c : Nat} (hR : Rel m I L R LP rc ln qu lg) (hI : Inv m B) (hB : B < 2 ^ 30) (hlg : lg < 2 ^ 30) (hs : s < mS m) (hm : mHold m (nI s) = some c) : Con yX7_busyWith cX7_busyWith 2 (some .int) 7 0 0 cy [.ref (ka S 0 0), .int (nI s)] (wc cy S I L R LP) (fun r w' => r = some (.int (nI c)) ∧ RelX cy S LP rc m w') kF := by
  obtain ⟨hS, hC, hH, hL, hG, hT⟩ := hR
  have hR : Rel m I L R LP rc ln qu lg := ⟨hS, hC, hH, hL, hG, hT⟩
  have hRc := hC.2.2
  have hkk := hI.2.2.2.1
  have hh := hI.2.2.2.2.1
  have hst := hS.2.1
  have hst2 := hst.2
  have hs10 : s < 10 := by omega
  obtain ⟨g0, g1, g2⟩ := hS.2.2.2 s hs
  obtain ⟨g3, g4, g5⟩ := hS.2.2.1 s hs10
  have hho := hold_eq hC hH hh (s := s) (by omega)
  rw [hm] at hho
  have hc := ((mHold_iff hh (by omega)).mp hm).1
  have ha : rc c ∈ LP := (hC.2.1.2.2 c hc).2
  refine Con_of (by decide +kernel) (Nat.le_of_ble_eq_true rfl) ?_
  refine J_eq (lv' := [(0, .ref (ka S 0 0)), (1, .int (nI s))]) rfl rfl rfl ?_
  refine J_aload_n 0 rfl dX7_busyWith_0 ?_
  refine gf_7_10 (n0 _) dX7_busyWith_1 ?_
  refine J_iload_n 1 rfl dX7_busyWith_4 ?_
  refine cv_7_70 (cells' := 0) (slots' := 0) dX7_busyWith_5 (c_X1_numbered_s hst hs) (n1 _) ⟨by decide, by decide⟩ rfl rfl (by decide) (by decide) (Nat.le_of_ble_eq_true rfl) (fun _ _ r1 => ?_) (fun _ _ h => h.elim)
  obtain ⟨rfl, rfl⟩ := r1
  refine J_eq (st' := [.ref (ka S 17 s)]) rfl rfl rfl ?_
  refine J_pop rfl dX7_busyWith_8 ?_
  refine J_aload_n 0 rfl dX7_busyWith_9 ?_
  refine gf_7_26 (n0 _) dX7_busyWith_10 ?_
  refine J_iload_n 1 rfl dX7_busyWith_13 ?_
  refine cv_7_86 (cells' := 0) (slots' := 0) dX7_busyWith_14 (c_X0_holderOf (s := nI s) (hH.inLP hC)) (n3 _) ⟨by decide, by decide⟩ rfl rfl (by decide) (by decide) (Nat.le_of_ble_eq_true rfl) (fun _ _ r2 => ?_) (fun _ _ h => h.elim)
  obtain ⟨rfl, rfl⟩ := r2
  refine J_eq (st' := [va_rf (holdF I R (1 <<< (nI s &&& 31)))]) rfl rfl rfl ?_
  refine J_topv (v' := .ref (rc c)) (by first | rfl | (rw [hho]; rfl)) ?_
  refine cv_7_105 (i := 0) (cells' := 0) (slots' := 0) dX7_busyWith_17 (c_X7_existing_s) ⟨by decide, by decide⟩ rfl rfl (by decide) (by decide) (Nat.le_of_ble_eq_true rfl) (fun _ _ r3 => ?_) (fun _ _ h => h.elim)
  obtain ⟨rfl, rfl⟩ := r3
  refine J_eq (st' := [.ref (rc c)]) rfl rfl rfl ?_
  refine gf_7_109 (n20 (by assumption)) dX7_busyWith_20 ?_
  refine J_topeq (nI c) (by exact (hRc c hc).1.1) ?_
  exact J_ireturn rfl (by first | rfl | assumption | simp [kb_nar]) dX7_busyWith_23 (⟨rfl, I, L, R, ln, qu, lg, rfl, hR, by omega⟩) (by omega) (by omega)

set_option maxRecDepth 20000 in
set_option maxHeartbeats 1000000 in
theorem c_X7_busyWith_n {cy : Nat → ClassId} {S : Nat → Nat → Nat} {I : kI} {L : kL} {R : kRf} {LP : List Nat} {m : Mu} {rc : Nat → Nat} {ln qu : List Nat} {lg B : Nat} {s : Nat} (hR : Rel m I L R LP rc ln qu lg) (hI : Inv m B) (hB : B < 2 ^ 30) (hlg : lg < 2 ^ 30) (hs : s < mS m) (hm : mHold m (nI s) = none) : Con yX7_busyWith cX7_busyWith 2 (some .int) 7 1 6 cy [.ref (ka S 0 0), .int (nI s)] (wc cy S I L R LP) kNo (kTX "java/util/NoSuchElementException" cy S LP rc m) := by
  obtain ⟨hS, hC, hH, hL, hG, hT⟩ := hR
  have hR : Rel m I L R LP rc ln qu lg := ⟨hS, hC, hH, hL, hG, hT⟩
  have hRc := hC.2.2
  have hkk := hI.2.2.2.1
  have hh := hI.2.2.2.2.1
  have hst := hS.2.1
  have hst2 := hst.2
  have hs10 : s < 10 := by omega
  obtain ⟨g0, g1, g2⟩ := hS.2.2.2 s hs
  obtain ⟨g3, g4, g5⟩ := hS.2.2.1 s hs10
  have hho := hold_eq hC hH hh (s := s) (by omega)
  rw [hm] at hho
  refine Con_of (by decide +kernel) (Nat.le_of_ble_eq_true rfl) ?_
  refine J_eq (lv' := [(0, .ref (ka S 0 0)), (1, .int (nI s))]) rfl rfl rfl ?_
  refine J_aload_n 0 rfl dX7_busyWith_0 ?_
  refine gf_7_10 (n0 _) dX7_busyWith_1 ?_
  refine J_iload_n 1 rfl dX7_busyWith_4 ?_
  refine cv_7_70 (cells' := 0) (slots' := 0) dX7_busyWith_5 (c_X1_numbered_s hst hs) (n1 _) ⟨by decide, by decide⟩ rfl rfl (by decide) (by decide) (Nat.le_of_ble_eq_true rfl) (fun _ _ r1 => ?_) (fun _ _ h => h.elim)
  obtain ⟨rfl, rfl⟩ := r1
  refine J_eq (st' := [.ref (ka S 17 s)]) rfl rfl rfl ?_
  refine J_pop rfl dX7_busyWith_8 ?_
  refine J_aload_n 0 rfl dX7_busyWith_9 ?_
  refine gf_7_26 (n0 _) dX7_busyWith_10 ?_
  refine J_iload_n 1 rfl dX7_busyWith_13 ?_
  refine cv_7_86 (cells' := 0) (slots' := 0) dX7_busyWith_14 (c_X0_holderOf (s := nI s) (hH.inLP hC)) (n3 _) ⟨by decide, by decide⟩ rfl rfl (by decide) (by decide) (Nat.le_of_ble_eq_true rfl) (fun _ _ r2 => ?_) (fun _ _ h => h.elim)
  obtain ⟨rfl, rfl⟩ := r2
  refine J_eq (st' := [va_rf (holdF I R (1 <<< (nI s &&& 31)))]) rfl rfl rfl ?_
  refine J_topv (v' := .null) (by first | rfl | (rw [hho]; rfl)) ?_
  exact cv_7_105 (i := 0) (cells' := 1) (slots' := 6) dX7_busyWith_17 (c_X7_existing_n) ⟨by decide, by decide⟩ rfl rfl (by decide) (by decide) (Nat.le_of_ble_eq_true rfl) (fun _ _ h => h.elim) (fun E9 w9 h9 => by obtain ⟨rfl, rfl⟩ := h9; exact ⟨rfl, I, L, R, ln, qu, lg, rfl, hR, by omega⟩)

set_option maxRecDepth 20000 in
set_option maxHeartbeats 1000000 in
theorem c_X7_busyWith_x {cy : Nat → ClassId} {S : Nat → Nat → Nat} {I : kI} {L : kL} {R : kRf} {LP : List Nat} {m : Mu} {rc : Nat → Nat} {ln qu : List Nat} {lg B : Nat} {x : Int32} (hR : Rel m I L R LP rc ln qu lg) (hI : Inv m B) (hB : B < 2 ^ 30) (hlg : lg < 2 ^ 30) (hx : ∀ s, s < mS m → x ≠ nI s) : Con yX7_busyWith cX7_busyWith 2 (some .int) 7 1 6 cy [.ref (ka S 0 0), .int x] (wc cy S I L R LP) kNo (kTX "java/lang/IndexOutOfBoundsException" cy S LP rc m) := by
  obtain ⟨hS, hC, hH, hL, hG, hT⟩ := hR
  have hR : Rel m I L R LP rc ln qu lg := ⟨hS, hC, hH, hL, hG, hT⟩
  have hRc := hC.2.2
  have hkk := hI.2.2.2.1
  have hh := hI.2.2.2.2.1
  have hst := hS.2.1
  have hst2 := hst.2
  refine Con_of (by decide +kernel) (Nat.le_of_ble_eq_true rfl) ?_
  refine J_eq (lv' := [(0, .ref (ka S 0 0)), (1, .int x)]) rfl rfl rfl ?_
  refine J_aload_n 0 rfl dX7_busyWith_0 ?_
  refine gf_7_10 (n0 _) dX7_busyWith_1 ?_
  refine J_iload_n 1 rfl dX7_busyWith_4 ?_
  exact cv_7_70 (cells' := 1) (slots' := 6) dX7_busyWith_5 (c_X1_numbered_x hst hx) (n1 _) ⟨by decide, by decide⟩ rfl rfl (by decide) (by decide) (Nat.le_of_ble_eq_true rfl) (fun _ _ h => h.elim) (fun E9 w9 h9 => by obtain ⟨rfl, rfl⟩ := h9; exact ⟨rfl, I, L, R, ln, qu, lg, rfl, hR, by omega⟩)

