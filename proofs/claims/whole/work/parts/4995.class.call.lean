/-! the public calls that change: call -/
theorem wght_ne {u : Int32} (hu : u = 100 ∨ u = 117 ∨ u = 115 ∨ u = 114) : wghtF u ≠ -1 := by rcases hu with h | h | h | h <;> rw [h] <;> decide
theorem wght_m1 {u : Int32} (hu : ¬ (u = 100 ∨ u = 117 ∨ u = 115 ∨ u = 114)) : wghtF u = -1 := by
  unfold wghtF
  rw [if_neg (fun h => hu (Or.inl h)), if_neg (fun h => hu (Or.inr (Or.inl h))), if_neg (fun h => hu (Or.inr (Or.inr (Or.inl h)))), if_neg (fun h => hu (Or.inr (Or.inr (Or.inr h))))]

set_option maxRecDepth 20000 in
set_option maxHeartbeats 1000000 in
theorem c_X7_call_s {cy : Nat → ClassId} {S : Nat → Nat → Nat} {I : kI} {L : kL} {R : kRf} {LP : List Nat} {m : Mu} {rc : Nat → Nat} {ln qu : List Nat} {lg B : Nat} {s t : Nat} {u k : Int32} (hR : Rel m I L R LP rc ln qu lg) (hI : Inv m B) (hB : B + 4100 < 2 ^ 30) (hlg : lg < 2 ^ 30) (hs : s < mS m) (ht : t < mS m) (hne : s ≠ t) (hu : u = 100 ∨ u = 117 ∨ u = 115 ∨ u = 114) (hk : 1 ≤ k ∧ k ≤ 30) (hfu : mFull m = false) : Con yX7_call cX7_call 6 (some .int) 11 1 13 cy [.ref (ka S 0 0), .int (nI s), .int (nI t), .int u, .int k] (wc cy S I L R LP) (fun r w' => r = some (.int (nI (mC m))) ∧ ∃ LP' rc', RelX cy S LP' rc' (mSpeak (mPlace m (nI s) (nI t) u k)) w') kF := by
  obtain ⟨hS, hC, hH, hL, hG, hT⟩ := hR
  have hR : Rel m I L R LP rc ln qu lg := ⟨hS, hC, hH, hL, hG, hT⟩
  have hRc := hC.2.2
  have hkk := hI.2.2.2.1
  have hh := hI.2.2.2.2.1
  have hst := hS.2.1
  have hst2 := hst.2
  have hff := full_f hI hfu
  refine Con_of (by decide +kernel) (Nat.le_of_ble_eq_true rfl) ?_
  refine J_eq (lv' := [(0, .ref (ka S 0 0)), (1, .int (nI s)), (2, .int (nI t)), (3, .int u), (4, .int k)]) rfl rfl rfl ?_
  refine J_aload_n 0 rfl dX7_call_0 ?_
  refine J_iload_n 1 rfl dX7_call_1 ?_
  refine J_iload_n 2 rfl dX7_call_2 ?_
  refine cv_7_97 (cells' := 0) (slots' := 0) dX7_call_3 (c_X7_checkPair_s hst hs ht hne) (n0 _) ⟨by decide, by decide⟩ rfl rfl (by decide) (by decide) (Nat.le_of_ble_eq_true rfl) (fun _ _ r1 => ?_) (fun _ _ h => h.elim)
  obtain ⟨rfl, rfl⟩ := r1
  refine J_eq (st' := []) rfl rfl rfl ?_
  refine J_iload_n 3 rfl dX7_call_6 ?_
  refine cv_7_136 (i := 0) (cells' := 0) (slots' := 0) dX7_call_7 (c_X7_weightOf) ⟨by decide, by decide⟩ rfl rfl (by decide) (by decide) (Nat.le_of_ble_eq_true rfl) (fun _ _ r2 => ?_) (fun _ _ h => h.elim)
  obtain ⟨rfl, rfl⟩ := r2
  refine J_eq (st' := [.int (wghtF u)]) rfl rfl rfl ?_
  refine J_iconst (v := (-1)) (by decide) dX7_call_10 ?_
  refine J_icmp_eq 27 (by decide) dX7_call_11 (fun c3 => ?_) (fun c3 => ?_)
  · exfalso
    exact wght_ne hu c3
  refine J_iload 4 rfl dX7_call_14 ?_
  refine J_iconst (v := 1) (by decide) dX7_call_16 ?_
  refine J_icmp_lt 27 (by decide) dX7_call_17 (fun c4 => ?_) (fun c4 => ?_)
  · exfalso
    exact absurd hk.1 (by grind)
  refine J_iload 4 rfl dX7_call_20 ?_
  refine J_bipush (v := 30) (by decide) dX7_call_22 ?_
  refine J_icmp_le 37 (by decide) dX7_call_24 (fun c5 => ?_) (fun c5 => ?_)
  rotate_left
  · exfalso
    exact c5 hk.2
  refine J_aload_n 0 rfl dX7_call_37 ?_
  refine cv_7_142 (cells' := 0) (slots' := 0) dX7_call_38 (c_X7_hasRoomForACall (n := mC m) (z := ln.length) hC.2.1.1 hC.2.1.2.1 hL.1 hL.2.1 (hH.inLP hC)) (n0 _) ⟨by decide, by decide⟩ rfl rfl (by decide) (by decide) (Nat.le_of_ble_eq_true rfl) (fun _ _ r6 => ?_) (fun _ _ h => h.elim)
  obtain ⟨rfl, rfl⟩ := r6
  refine J_eq (st' := [.int (kb (decide (mC m < 150) && decide (nI ln.length + busyF R < 24)))]) rfl rfl rfl ?_
  refine J_topeq 1 (by rw [room_eq hR hI, hfu]; rfl) ?_
  refine J_if_ne 54 (by decide) dX7_call_41 (fun c7 => ?_) (fun c7 => ?_)
  rotate_left
  · exact absurd c7 (by decide)
  refine J_aload_n 0 rfl dX7_call_54 ?_
  refine gf_7_147 (n0 _) dX7_call_55 ?_
  refine J_topeq (nI (mC m)) (by exact hC.2.1.1) ?_
  refine J_istore (lv' := [(0, .ref (ka S 0 0)), (1, .int (nI s)), (2, .int (nI t)), (3, .int u), (4, .int k), (5, .int (nI (mC m)))]) (by decide) rfl dX7_call_58 ?_
  refine J_aload_n 0 rfl dX7_call_60 ?_
  refine J_iload_n 1 rfl dX7_call_61 ?_
  refine J_iload_n 2 rfl dX7_call_62 ?_
  refine J_iload_n 3 rfl dX7_call_63 ?_
  refine J_iload 4 rfl dX7_call_64 ?_
  refine cv_7_150 (cells' := 0 + 1) (slots' := 0 + 13) dX7_call_66 (c_X7_place hR hI (by omega) hlg hff.1 hff.2 hs ht hne hu) (n0 _) ⟨by decide, by decide⟩ rfl rfl (by decide) (by decide) (Nat.le_of_ble_eq_true rfl) (fun _ _ r8 => ?_) (fun _ _ h => h.elim)
  obtain ⟨rfl, LP3, rc3, I3, L3, R3, ln3, qu3, lg3, rfl, hR3, hl3⟩ := r8
  refine J_eq (st' := []) rfl rfl rfl ?_
  have hI3 := inv_place (k := k) hC.1 hI hfu hs ht hne hu
  have hlg3 := lg_lt hR3.2.2.2.2.1 hI3.2.2.2.2.2.2.1 (by omega) hl3
  refine J_aload_n 0 rfl dX7_call_69 ?_
  refine cv_7_67 (cells' := (0 + 1)) (slots' := (0 + 13)) dX7_call_70 (c_X7_letSpeak hR3 hI3 (by omega) hlg3) (n0 _) ⟨by decide, by decide⟩ rfl rfl (by decide) (by decide) (Nat.le_of_ble_eq_true rfl) (fun _ _ r9 => ?_) (fun _ _ h => h.elim)
  obtain ⟨rfl, I4, L4, R4, ln4, qu4, lg4, rfl, hR4, hl4⟩ := r9
  refine J_eq (st' := []) rfl rfl rfl ?_
  refine J_iload 5 rfl dX7_call_73 ?_
  exact J_ireturn rfl (by first | rfl | assumption | simp [kb_nar]) dX7_call_75 (⟨rfl, LP3, rc3, I4, L4, R4, ln4, qu4, lg4, rfl, hR4, hl4⟩) (by omega) (by omega)

set_option maxRecDepth 20000 in
set_option maxHeartbeats 1000000 in
theorem c_X7_call_u {cy : Nat → ClassId} {S : Nat → Nat → Nat} {I : kI} {L : kL} {R : kRf} {LP : List Nat} {m : Mu} {rc : Nat → Nat} {ln qu : List Nat} {lg B : Nat} {s t : Nat} {u k : Int32} (hR : Rel m I L R LP rc ln qu lg) (hI : Inv m B) (hB : B < 2 ^ 30) (hlg : lg < 2 ^ 30) (hs : s < mS m) (ht : t < mS m) (hne : s ≠ t) (hu : ¬ (u = 100 ∨ u = 117 ∨ u = 115 ∨ u = 114)) : Con yX7_call cX7_call 6 (some .int) 8 1 6 cy [.ref (ka S 0 0), .int (nI s), .int (nI t), .int u, .int k] (wc cy S I L R LP) kNo (kTX "java/lang/IllegalArgumentException" cy S LP rc m) := by
  obtain ⟨hS, hC, hH, hL, hG, hT⟩ := hR
  have hR : Rel m I L R LP rc ln qu lg := ⟨hS, hC, hH, hL, hG, hT⟩
  have hRc := hC.2.2
  have hkk := hI.2.2.2.1
  have hh := hI.2.2.2.2.1
  have hst := hS.2.1
  have hst2 := hst.2
  refine Con_of (by decide +kernel) (Nat.le_of_ble_eq_true rfl) ?_
  refine J_eq (lv' := [(0, .ref (ka S 0 0)), (1, .int (nI s)), (2, .int (nI t)), (3, .int u), (4, .int k)]) rfl rfl rfl ?_
  refine J_aload_n 0 rfl dX7_call_0 ?_
  refine J_iload_n 1 rfl dX7_call_1 ?_
  refine J_iload_n 2 rfl dX7_call_2 ?_
  refine cv_7_97 (cells' := 0) (slots' := 0) dX7_call_3 (c_X7_checkPair_s hst hs ht hne) (n0 _) ⟨by decide, by decide⟩ rfl rfl (by decide) (by decide) (Nat.le_of_ble_eq_true rfl) (fun _ _ r1 => ?_) (fun _ _ h => h.elim)
  obtain ⟨rfl, rfl⟩ := r1
  refine J_eq (st' := []) rfl rfl rfl ?_
  refine J_iload_n 3 rfl dX7_call_6 ?_
  refine cv_7_136 (i := 0) (cells' := 0) (slots' := 0) dX7_call_7 (c_X7_weightOf) ⟨by decide, by decide⟩ rfl rfl (by decide) (by decide) (Nat.le_of_ble_eq_true rfl) (fun _ _ r2 => ?_) (fun _ _ h => h.elim)
  obtain ⟨rfl, rfl⟩ := r2
  refine J_eq (st' := [.int (wghtF u)]) rfl rfl rfl ?_
  refine J_iconst (v := (-1)) (by decide) dX7_call_10 ?_
  refine J_icmp_eq 27 (by decide) dX7_call_11 (fun c3 => ?_) (fun c3 => ?_)
  rotate_left
  · exfalso
    exact c3 (wght_m1 hu)
  exact J_throw (E := "java/lang/IllegalArgumentException") (text := "urgency or minutes not valid") (ik := 47) (is := 140) (ic := 51) exc_IllegalArgumentException (by decide +kernel) cl_7_47 ini_IllegalArgumentException at_7_51 fit_IllegalArgumentException (⟨rfl, I, L, R, ln, qu, lg, rfl, hR, by omega⟩) (by decide) (Nat.le_of_ble_eq_true rfl) (by decide) (by decide) dX7_call_27 dX7_call_30 dX7_call_31 dX7_call_33 dX7_call_36

set_option maxRecDepth 20000 in
set_option maxHeartbeats 1000000 in
theorem c_X7_call_k {cy : Nat → ClassId} {S : Nat → Nat → Nat} {I : kI} {L : kL} {R : kRf} {LP : List Nat} {m : Mu} {rc : Nat → Nat} {ln qu : List Nat} {lg B : Nat} {s t : Nat} {u k : Int32} (hR : Rel m I L R LP rc ln qu lg) (hI : Inv m B) (hB : B < 2 ^ 30) (hlg : lg < 2 ^ 30) (hs : s < mS m) (ht : t < mS m) (hne : s ≠ t) (hu : u = 100 ∨ u = 117 ∨ u = 115 ∨ u = 114) (hk : ¬ (1 ≤ k ∧ k ≤ 30)) : Con yX7_call cX7_call 6 (some .int) 8 1 6 cy [.ref (ka S 0 0), .int (nI s), .int (nI t), .int u, .int k] (wc cy S I L R LP) kNo (kTX "java/lang/IllegalArgumentException" cy S LP rc m) := by
  obtain ⟨hS, hC, hH, hL, hG, hT⟩ := hR
  have hR : Rel m I L R LP rc ln qu lg := ⟨hS, hC, hH, hL, hG, hT⟩
  have hRc := hC.2.2
  have hkk := hI.2.2.2.1
  have hh := hI.2.2.2.2.1
  have hst := hS.2.1
  have hst2 := hst.2
  refine Con_of (by decide +kernel) (Nat.le_of_ble_eq_true rfl) ?_
  refine J_eq (lv' := [(0, .ref (ka S 0 0)), (1, .int (nI s)), (2, .int (nI t)), (3, .int u), (4, .int k)]) rfl rfl rfl ?_
  refine J_aload_n 0 rfl dX7_call_0 ?_
  refine J_iload_n 1 rfl dX7_call_1 ?_
  refine J_iload_n 2 rfl dX7_call_2 ?_
  refine cv_7_97 (cells' := 0) (slots' := 0) dX7_call_3 (c_X7_checkPair_s hst hs ht hne) (n0 _) ⟨by decide, by decide⟩ rfl rfl (by decide) (by decide) (Nat.le_of_ble_eq_true rfl) (fun _ _ r1 => ?_) (fun _ _ h => h.elim)
  obtain ⟨rfl, rfl⟩ := r1
  refine J_eq (st' := []) rfl rfl rfl ?_
  refine J_iload_n 3 rfl dX7_call_6 ?_
  refine cv_7_136 (i := 0) (cells' := 0) (slots' := 0) dX7_call_7 (c_X7_weightOf) ⟨by decide, by decide⟩ rfl rfl (by decide) (by decide) (Nat.le_of_ble_eq_true rfl) (fun _ _ r2 => ?_) (fun _ _ h => h.elim)
  obtain ⟨rfl, rfl⟩ := r2
  refine J_eq (st' := [.int (wghtF u)]) rfl rfl rfl ?_
  refine J_iconst (v := (-1)) (by decide) dX7_call_10 ?_
  refine J_icmp_eq 27 (by decide) dX7_call_11 (fun c3 => ?_) (fun c3 => ?_)
  · exfalso
    exact wght_ne hu c3
  refine J_iload 4 rfl dX7_call_14 ?_
  refine J_iconst (v := 1) (by decide) dX7_call_16 ?_
  refine J_icmp_lt 27 (by decide) dX7_call_17 (fun c4 => ?_) (fun c4 => ?_)
  · skip
    exact J_throw (E := "java/lang/IllegalArgumentException") (text := "urgency or minutes not valid") (ik := 47) (is := 140) (ic := 51) exc_IllegalArgumentException (by decide +kernel) cl_7_47 ini_IllegalArgumentException at_7_51 fit_IllegalArgumentException (⟨rfl, I, L, R, ln, qu, lg, rfl, hR, by omega⟩) (by decide) (Nat.le_of_ble_eq_true rfl) (by decide) (by decide) dX7_call_27 dX7_call_30 dX7_call_31 dX7_call_33 dX7_call_36
  · skip
    refine J_iload 4 rfl dX7_call_20 ?_
    refine J_bipush (v := 30) (by decide) dX7_call_22 ?_
    refine J_icmp_le 37 (by decide) dX7_call_24 (fun c5 => ?_) (fun c5 => ?_)
    · exfalso
      exact hk ⟨by grind, c5⟩
    exact J_throw (E := "java/lang/IllegalArgumentException") (text := "urgency or minutes not valid") (ik := 47) (is := 140) (ic := 51) exc_IllegalArgumentException (by decide +kernel) cl_7_47 ini_IllegalArgumentException at_7_51 fit_IllegalArgumentException (⟨rfl, I, L, R, ln, qu, lg, rfl, hR, by omega⟩) (by decide) (Nat.le_of_ble_eq_true rfl) (by decide) (by decide) dX7_call_27 dX7_call_30 dX7_call_31 dX7_call_33 dX7_call_36

set_option maxRecDepth 20000 in
set_option maxHeartbeats 1000000 in
theorem c_X7_call_f {cy : Nat → ClassId} {S : Nat → Nat → Nat} {I : kI} {L : kL} {R : kRf} {LP : List Nat} {m : Mu} {rc : Nat → Nat} {ln qu : List Nat} {lg B : Nat} {s t : Nat} {u k : Int32} (hR : Rel m I L R LP rc ln qu lg) (hI : Inv m B) (hB : B < 2 ^ 30) (hlg : lg < 2 ^ 30) (hs : s < mS m) (ht : t < mS m) (hne : s ≠ t) (hu : u = 100 ∨ u = 117 ∨ u = 115 ∨ u = 114) (hk : 1 ≤ k ∧ k ≤ 30) (hfu : mFull m = true) : Con yX7_call cX7_call 6 (some .int) 8 1 6 cy [.ref (ka S 0 0), .int (nI s), .int (nI t), .int u, .int k] (wc cy S I L R LP) kNo (kTX "java/lang/IllegalStateException" cy S LP rc m) := by
  obtain ⟨hS, hC, hH, hL, hG, hT⟩ := hR
  have hR : Rel m I L R LP rc ln qu lg := ⟨hS, hC, hH, hL, hG, hT⟩
  have hRc := hC.2.2
  have hkk := hI.2.2.2.1
  have hh := hI.2.2.2.2.1
  have hst := hS.2.1
  have hst2 := hst.2
  refine Con_of (by decide +kernel) (Nat.le_of_ble_eq_true rfl) ?_
  refine J_eq (lv' := [(0, .ref (ka S 0 0)), (1, .int (nI s)), (2, .int (nI t)), (3, .int u), (4, .int k)]) rfl rfl rfl ?_
  refine J_aload_n 0 rfl dX7_call_0 ?_
  refine J_iload_n 1 rfl dX7_call_1 ?_
  refine J_iload_n 2 rfl dX7_call_2 ?_
  refine cv_7_97 (cells' := 0) (slots' := 0) dX7_call_3 (c_X7_checkPair_s hst hs ht hne) (n0 _) ⟨by decide, by decide⟩ rfl rfl (by decide) (by decide) (Nat.le_of_ble_eq_true rfl) (fun _ _ r1 => ?_) (fun _ _ h => h.elim)
  obtain ⟨rfl, rfl⟩ := r1
  refine J_eq (st' := []) rfl rfl rfl ?_
  refine J_iload_n 3 rfl dX7_call_6 ?_
  refine cv_7_136 (i := 0) (cells' := 0) (slots' := 0) dX7_call_7 (c_X7_weightOf) ⟨by decide, by decide⟩ rfl rfl (by decide) (by decide) (Nat.le_of_ble_eq_true rfl) (fun _ _ r2 => ?_) (fun _ _ h => h.elim)
  obtain ⟨rfl, rfl⟩ := r2
  refine J_eq (st' := [.int (wghtF u)]) rfl rfl rfl ?_
  refine J_iconst (v := (-1)) (by decide) dX7_call_10 ?_
  refine J_icmp_eq 27 (by decide) dX7_call_11 (fun c3 => ?_) (fun c3 => ?_)
  · exfalso
    exact wght_ne hu c3
  refine J_iload 4 rfl dX7_call_14 ?_
  refine J_iconst (v := 1) (by decide) dX7_call_16 ?_
  refine J_icmp_lt 27 (by decide) dX7_call_17 (fun c4 => ?_) (fun c4 => ?_)
  · exfalso
    exact absurd hk.1 (by grind)
  refine J_iload 4 rfl dX7_call_20 ?_
  refine J_bipush (v := 30) (by decide) dX7_call_22 ?_
  refine J_icmp_le 37 (by decide) dX7_call_24 (fun c5 => ?_) (fun c5 => ?_)
  rotate_left
  · exfalso
    exact c5 hk.2
  refine J_aload_n 0 rfl dX7_call_37 ?_
  refine cv_7_142 (cells' := 0) (slots' := 0) dX7_call_38 (c_X7_hasRoomForACall (n := mC m) (z := ln.length) hC.2.1.1 hC.2.1.2.1 hL.1 hL.2.1 (hH.inLP hC)) (n0 _) ⟨by decide, by decide⟩ rfl rfl (by decide) (by decide) (Nat.le_of_ble_eq_true rfl) (fun _ _ r6 => ?_) (fun _ _ h => h.elim)
  obtain ⟨rfl, rfl⟩ := r6
  refine J_eq (st' := [.int (kb (decide (mC m < 150) && decide (nI ln.length + busyF R < 24)))]) rfl rfl rfl ?_
  refine J_topeq 0 (by rw [room_eq hR hI, hfu]; rfl) ?_
  refine J_if_ne 54 (by decide) dX7_call_41 (fun c7 => ?_) (fun c7 => ?_)
  · exact absurd (by decide) c7
  exact J_throw (E := "java/lang/IllegalStateException") (text := "no more calls") (ik := 58) (is := 145) (ic := 62) exc_IllegalStateException (by decide +kernel) cl_7_58 ini_IllegalStateException at_7_62 fit_IllegalStateException (⟨rfl, I, L, R, ln, qu, lg, rfl, hR, by omega⟩) (by decide) (Nat.le_of_ble_eq_true rfl) (by decide) (by decide) dX7_call_44 dX7_call_47 dX7_call_48 dX7_call_50 dX7_call_53

set_option maxRecDepth 20000 in
set_option maxHeartbeats 1000000 in
theorem c_X7_call_e {cy : Nat → ClassId} {S : Nat → Nat → Nat} {I : kI} {L : kL} {R : kRf} {LP : List Nat} {m : Mu} {rc : Nat → Nat} {ln qu : List Nat} {lg B : Nat} {s : Nat} {u k : Int32} (hR : Rel m I L R LP rc ln qu lg) (hI : Inv m B) (hB : B < 2 ^ 30) (hlg : lg < 2 ^ 30) (hs : s < mS m) : Con yX7_call cX7_call 6 (some .int) 8 1 6 cy [.ref (ka S 0 0), .int (nI s), .int (nI s), .int u, .int k] (wc cy S I L R LP) kNo (kTX "java/lang/IllegalArgumentException" cy S LP rc m) := by
  obtain ⟨hS, hC, hH, hL, hG, hT⟩ := hR
  have hR : Rel m I L R LP rc ln qu lg := ⟨hS, hC, hH, hL, hG, hT⟩
  have hRc := hC.2.2
  have hkk := hI.2.2.2.1
  have hh := hI.2.2.2.2.1
  have hst := hS.2.1
  have hst2 := hst.2
  refine Con_of (by decide +kernel) (Nat.le_of_ble_eq_true rfl) ?_
  refine J_eq (lv' := [(0, .ref (ka S 0 0)), (1, .int (nI s)), (2, .int (nI s)), (3, .int u), (4, .int k)]) rfl rfl rfl ?_
  refine J_aload_n 0 rfl dX7_call_0 ?_
  refine J_iload_n 1 rfl dX7_call_1 ?_
  refine J_iload_n 2 rfl dX7_call_2 ?_
  exact cv_7_97 (cells' := 1) (slots' := 6) dX7_call_3 (c_X7_checkPair_e hst hs) (n0 _) ⟨by decide, by decide⟩ rfl rfl (by decide) (by decide) (Nat.le_of_ble_eq_true rfl) (fun _ _ h => h.elim) (fun E9 w9 h9 => by obtain ⟨rfl, rfl⟩ := h9; exact ⟨rfl, I, L, R, ln, qu, lg, rfl, hR, by omega⟩)

set_option maxRecDepth 20000 in
set_option maxHeartbeats 1000000 in
theorem c_X7_call_x {cy : Nat → ClassId} {S : Nat → Nat → Nat} {I : kI} {L : kL} {R : kRf} {LP : List Nat} {m : Mu} {rc : Nat → Nat} {ln qu : List Nat} {lg B : Nat} {x y : Int32} {u k : Int32} (hR : Rel m I L R LP rc ln qu lg) (hI : Inv m B) (hB : B < 2 ^ 30) (hlg : lg < 2 ^ 30) (hx : ∀ s, s < mS m → x ≠ nI s) : Con yX7_call cX7_call 6 (some .int) 8 1 6 cy [.ref (ka S 0 0), .int x, .int y, .int u, .int k] (wc cy S I L R LP) kNo (kTX "java/lang/IndexOutOfBoundsException" cy S LP rc m) := by
  obtain ⟨hS, hC, hH, hL, hG, hT⟩ := hR
  have hR : Rel m I L R LP rc ln qu lg := ⟨hS, hC, hH, hL, hG, hT⟩
  have hRc := hC.2.2
  have hkk := hI.2.2.2.1
  have hh := hI.2.2.2.2.1
  have hst := hS.2.1
  have hst2 := hst.2
  refine Con_of (by decide +kernel) (Nat.le_of_ble_eq_true rfl) ?_
  refine J_eq (lv' := [(0, .ref (ka S 0 0)), (1, .int x), (2, .int y), (3, .int u), (4, .int k)]) rfl rfl rfl ?_
  refine J_aload_n 0 rfl dX7_call_0 ?_
  refine J_iload_n 1 rfl dX7_call_1 ?_
  refine J_iload_n 2 rfl dX7_call_2 ?_
  exact cv_7_97 (cells' := 1) (slots' := 6) dX7_call_3 (c_X7_checkPair_x hst hx) (n0 _) ⟨by decide, by decide⟩ rfl rfl (by decide) (by decide) (Nat.le_of_ble_eq_true rfl) (fun _ _ h => h.elim) (fun E9 w9 h9 => by obtain ⟨rfl, rfl⟩ := h9; exact ⟨rfl, I, L, R, ln, qu, lg, rfl, hR, by omega⟩)

set_option maxRecDepth 20000 in
set_option maxHeartbeats 1000000 in
theorem c_X7_call_y {cy : Nat → ClassId} {S : Nat → Nat → Nat} {I : kI} {L : kL} {R : kRf} {LP : List Nat} {m : Mu} {rc : Nat → Nat} {ln qu : List Nat} {lg B : Nat} {s : Nat} {x : Int32} {u k : Int32} (hR : Rel m I L R LP rc ln qu lg) (hI : Inv m B) (hB : B < 2 ^ 30) (hlg : lg < 2 ^ 30) (hs : s < mS m) (hx : ∀ s, s < mS m → x ≠ nI s) : Con yX7_call cX7_call 6 (some .int) 8 1 6 cy [.ref (ka S 0 0), .int (nI s), .int x, .int u, .int k] (wc cy S I L R LP) kNo (kTX "java/lang/IndexOutOfBoundsException" cy S LP rc m) := by
  obtain ⟨hS, hC, hH, hL, hG, hT⟩ := hR
  have hR : Rel m I L R LP rc ln qu lg := ⟨hS, hC, hH, hL, hG, hT⟩
  have hRc := hC.2.2
  have hkk := hI.2.2.2.1
  have hh := hI.2.2.2.2.1
  have hst := hS.2.1
  have hst2 := hst.2
  refine Con_of (by decide +kernel) (Nat.le_of_ble_eq_true rfl) ?_
  refine J_eq (lv' := [(0, .ref (ka S 0 0)), (1, .int (nI s)), (2, .int x), (3, .int u), (4, .int k)]) rfl rfl rfl ?_
  refine J_aload_n 0 rfl dX7_call_0 ?_
  refine J_iload_n 1 rfl dX7_call_1 ?_
  refine J_iload_n 2 rfl dX7_call_2 ?_
  exact cv_7_97 (cells' := 1) (slots' := 6) dX7_call_3 (c_X7_checkPair_y hst hs hx) (n0 _) ⟨by decide, by decide⟩ rfl rfl (by decide) (by decide) (Nat.le_of_ble_eq_true rfl) (fun _ _ h => h.elim) (fun E9 w9 h9 => by obtain ⟨rfl, rfl⟩ := h9; exact ⟨rfl, I, L, R, ln, qu, lg, rfl, hR, by omega⟩)

