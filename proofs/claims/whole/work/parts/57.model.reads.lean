/-! the model: the public calls, by cases -/
section MU
variable {m m' : Mu} {B : Nat}
theorem take_S {c : Nat} {v : Int32} : mS (mTake m c v) = mS m := by
  have e0 : (mTake m c v).1 30 0 = m.1 30 0 := by rw [take_tk]; show (tkM m c v).1 30 0 = _; exact tk_30 (by decide)
  unfold mS; rw [e0]
theorem begin_S' {c : Nat} {v : Int32} : mS (mTake (mRoom (mClear m v) c) c v) = mS m := by rw [take_S, room_same.eS, clear_same.eS]
theorem begin_S {c : Nat} : mS (mBegin m c) = mS m := begin_S'
theorem turn_S {q : Nat} : mS (mTurn q m) = mS m := by
  unfold mTurn; split
  · exact begin_S
  · rfl
theorem turns_S (f : Nat) {m : Mu} : mS (mTurns f m) = mS m := by
  induction f generalizing m with
  | zero => rfl
  | succ f ih => rw [mTurns_s, ih, turn_S]
theorem speak_S : mS (mSpeak m) = mS m := turns_S 600
theorem mN_place {f t u k : Int32} (hn : mN m) (h : mC m < 150) : mN (mPlace m f t u k) := ⟨hn.1, pl_n hn.2 h⟩
theorem nb_t {b : Bool} (h : (!b) = false) : b = true := by cases b <;> simp_all
theorem nb_f {b : Bool} (h : (!b) = true) : b = false := by cases b <;> simp_all
theorem wght_ge {u : Int32} (hu : u = 100 ∨ u = 117 ∨ u = 115 ∨ u = 114) : ¬ wghtF u < 0 := by rcases hu with h | h | h | h <;> rw [h] <;> decide
theorem wght_ge1 {u : Int32} (hu : u = 100 ∨ u = 117 ∨ u = 115) : 1 ≤ wghtF u := by rcases hu with h | h | h <;> rw [h] <;> decide
theorem wght_lt1 {u : Int32} (hu : ¬ (u = 100 ∨ u = 117 ∨ u = 115)) : ¬ 1 ≤ wghtF u := by
  rcases wght_le hu with h | h <;> rw [h] <;> decide
theorem nar_u {u : Int32} (hu : u = 100 ∨ u = 117 ∨ u = 115 ∨ u = 114) : vp_nar .char u = u := by rcases hu with h | h | h | h <;> rw [h] <;> decide
end MU

set_option maxRecDepth 20000 in
set_option maxHeartbeats 1000000 in
theorem c_X8_failsE {cy : Nat → ClassId} {S : Nat → Nat → Nat} {I : kI} {L : kL} {R : kRf} {x : Int32} : Con yX8_fails cX8_fails 2 (some .boolean) 0 0 0 cy [.ref (ka S 30 0), .int x] (wm cy S I L R) (kRet (some (.int (kb (decide (0 < x))))) (wm cy S (ku I 30 0 31 x) L R)) kF := by
  refine Con_of (by decide +kernel) (Nat.le_of_ble_eq_true rfl) ?_
  refine J_eq (lv' := [(0, .ref (ka S 30 0)), (1, .int x)]) rfl rfl rfl ?_
  refine J_aload_n 0 rfl dX8_fails_0 ?_
  refine J_iload_n 1 rfl dX8_fails_1 ?_
  refine pf_8_78 n30 dX8_fails_2 ?_
  refine J_iload_n 1 rfl dX8_fails_5 ?_
  refine J_if_le 13 (by decide) dX8_fails_6 (fun c1 => ?_) (fun c1 => ?_)
  · skip
    refine J_iconst (v := 0) (by decide) dX8_fails_13 ?_
    exact J_ireturn rfl (by first | rfl | assumption | simp [kb_nar]) dX8_fails_14 (⟨by first | (rw [decide_eq_true (by grind)]; rfl) | (rw [decide_eq_false (by grind)]; rfl), rfl⟩) (by omega) (by omega)
  · skip
    refine J_iconst (v := 1) (by decide) dX8_fails_9 ?_
    refine J_goto 14 (by decide) dX8_fails_10 ?_
    exact J_ireturn rfl (by first | rfl | assumption | simp [kb_nar]) dX8_fails_14 (⟨by first | (rw [decide_eq_true (by grind)]; rfl) | (rw [decide_eq_false (by grind)]; rfl), rfl⟩) (by omega) (by omega)

set_option maxRecDepth 20000 in
set_option maxHeartbeats 1000000 in
theorem c_X8_placeOf_s {cy : Nat → ClassId} {S : Nat → Nat → Nat} {I : kI} {L : kL} {R : kRf} {m : Mu} {cd : Int32} {s : Nat} (hM : MR m cd I L) {Ic : kI} {Lc : kL} {Rc : kRf} {LPc : List Nat} {rc : Nat → Nat} {ln qu : List Nat} {lg B : Nat} (hR : Rel m Ic Lc Rc LPc rc ln qu lg) (hI : Inv m B) (hB : B + 90000 < 2 ^ 30) (hs : s < mS m) : Con yX8_placeOf cX8_placeOf 2 (some .int) 7 0 0 cy [.ref (ka S 30 0), .int (nI s)] (wm cy S I L R) (fun r w' => r = some (.int (m.1 41 s)) ∧ MX cy S R m 0 w') kF := by
  have hn : mN m := ⟨hR.1.1, hR.2.1.1⟩
  have h10 := hI.1
  have h150 := hI.2.2.1
  have hg0 := inv_g hI (by omega)
  have hkk := hI.2.2.2.1
  have hh := hI.2.2.2.2.1
  refine Con_of (by decide +kernel) (Nat.le_of_ble_eq_true rfl) ?_
  refine J_eq (lv' := [(0, .ref (ka S 30 0)), (1, .int (nI s))]) rfl rfl rfl ?_
  refine J_aload_n 0 rfl dX8_placeOf_0 ?_
  refine J_aload_n 0 rfl dX8_placeOf_1 ?_
  refine J_iload_n 1 rfl dX8_placeOf_2 ?_
  refine cv_8_120 (cells' := 0) (slots' := 0) dX8_placeOf_3 (c_X8_isNone hM hn) n30 ⟨by decide, by decide⟩ rfl rfl (by decide) (by decide) (Nat.le_of_ble_eq_true rfl) (fun _ _ r1 => ?_) (fun _ _ h => h.elim)
  obtain ⟨rfl, rfl⟩ := r1
  refine J_eq (st' := [.int (kb (!(decide (0 ≤ (nI s)) && decide ((nI s) ≤ nI (mS m) - 1)))), .ref (ka S 30 0)]) rfl rfl rfl ?_
  refine J_topeq 0 (by rw [none_f (n := mS m) (by omega) (by assumption)]; rfl) ?_
  refine J_if_eq 13 (by decide) dX8_placeOf_6 (fun c2 => ?_) (fun c2 => ?_)
  rotate_left
  · exact absurd (by decide) c2
  refine J_iconst (v := 0) (by decide) dX8_placeOf_13 ?_
  refine cv_8_113 (cells' := 0) (slots' := 0) dX8_placeOf_14 (c_X8_failsE (x := 0)) n30 ⟨by decide, by decide⟩ rfl rfl (by decide) (by decide) (Nat.le_of_ble_eq_true rfl) (fun _ _ r3 => ?_) (fun _ _ h => h.elim)
  obtain ⟨rfl, rfl⟩ := r3
  refine J_eq (st' := [.int (kb (decide (0 < (0 : Int32))))]) rfl rfl rfl ?_
  have hM4 := MR_cd hM (v := 0)
  refine J_topeq 0 (by decide) ?_
  refine J_if_eq 24 (by decide) dX8_placeOf_17 (fun c5 => ?_) (fun c5 => ?_)
  rotate_left
  · exact absurd (by decide) c5
  refine J_aload_n 0 rfl dX8_placeOf_24 ?_
  refine gf_8_7 n30 dX8_placeOf_25 ?_
  refine J_iload_n 1 rfl dX8_placeOf_28 ?_
  refine J_iald s 0 n41 rfl rfl (vp_in_nI (by omega) (by decide)) (nI_toNat (by omega)) dX8_placeOf_29 ?_
  refine J_topeq (m.1 41 s) (hM4.1 41 s rfl) ?_
  exact J_ireturn rfl (by first | rfl | assumption | simp [kb_nar]) dX8_placeOf_30 (⟨rfl, _, _, rfl, hM4⟩) (by omega) (by omega)

set_option maxRecDepth 20000 in
set_option maxHeartbeats 1000000 in
theorem c_X8_placeOf_x {cy : Nat → ClassId} {S : Nat → Nat → Nat} {I : kI} {L : kL} {R : kRf} {m : Mu} {cd : Int32} {x : Int32} (hM : MR m cd I L) {Ic : kI} {Lc : kL} {Rc : kRf} {LPc : List Nat} {rc : Nat → Nat} {ln qu : List Nat} {lg B : Nat} (hR : Rel m Ic Lc Rc LPc rc ln qu lg) (hI : Inv m B) (hB : B + 90000 < 2 ^ 30) (hx : ∀ s, s < mS m → x ≠ nI s) : Con yX8_placeOf cX8_placeOf 2 (some .int) 7 0 0 cy [.ref (ka S 30 0), .int x] (wm cy S I L R) (fun r w' => r = some (.int 0) ∧ MX cy S R m 1 w') kF := by
  have hn : mN m := ⟨hR.1.1, hR.2.1.1⟩
  have h10 := hI.1
  have h150 := hI.2.2.1
  have hg0 := inv_g hI (by omega)
  have hkk := hI.2.2.2.1
  have hh := hI.2.2.2.2.1
  refine Con_of (by decide +kernel) (Nat.le_of_ble_eq_true rfl) ?_
  refine J_eq (lv' := [(0, .ref (ka S 30 0)), (1, .int x)]) rfl rfl rfl ?_
  refine J_aload_n 0 rfl dX8_placeOf_0 ?_
  refine J_aload_n 0 rfl dX8_placeOf_1 ?_
  refine J_iload_n 1 rfl dX8_placeOf_2 ?_
  refine cv_8_120 (cells' := 0) (slots' := 0) dX8_placeOf_3 (c_X8_isNone hM hn) n30 ⟨by decide, by decide⟩ rfl rfl (by decide) (by decide) (Nat.le_of_ble_eq_true rfl) (fun _ _ r1 => ?_) (fun _ _ h => h.elim)
  obtain ⟨rfl, rfl⟩ := r1
  refine J_eq (st' := [.int (kb (!(decide (0 ≤ x) && decide (x ≤ nI (mS m) - 1)))), .ref (ka S 30 0)]) rfl rfl rfl ?_
  refine J_topeq 1 (by rw [none_t (n := mS m) (by omega) (by assumption)]; rfl) ?_
  refine J_if_eq 13 (by decide) dX8_placeOf_6 (fun c2 => ?_) (fun c2 => ?_)
  · exact absurd c2 (by decide)
  refine J_iconst (v := 1) (by decide) dX8_placeOf_9 ?_
  refine J_goto 14 (by decide) dX8_placeOf_10 ?_
  refine cv_8_113 (cells' := 0) (slots' := 0) dX8_placeOf_14 (c_X8_failsE (x := 1)) n30 ⟨by decide, by decide⟩ rfl rfl (by decide) (by decide) (Nat.le_of_ble_eq_true rfl) (fun _ _ r3 => ?_) (fun _ _ h => h.elim)
  obtain ⟨rfl, rfl⟩ := r3
  refine J_eq (st' := [.int (kb (decide (0 < (1 : Int32))))]) rfl rfl rfl ?_
  have hM4 := MR_cd hM (v := 1)
  refine J_topeq 1 (by decide) ?_
  refine J_if_eq 24 (by decide) dX8_placeOf_17 (fun c5 => ?_) (fun c5 => ?_)
  · exact absurd c5 (by decide)
  refine J_iconst (v := 0) (by decide) dX8_placeOf_20 ?_
  refine J_goto 30 (by decide) dX8_placeOf_21 ?_
  exact J_ireturn rfl (by first | rfl | assumption | simp [kb_nar]) dX8_placeOf_30 (⟨rfl, _, _, rfl, hM4⟩) (by omega) (by omega)

set_option maxRecDepth 20000 in
set_option maxHeartbeats 1000000 in
theorem c_X8_missed_s {cy : Nat → ClassId} {S : Nat → Nat → Nat} {I : kI} {L : kL} {R : kRf} {m : Mu} {cd : Int32} {s : Nat} (hM : MR m cd I L) {Ic : kI} {Lc : kL} {Rc : kRf} {LPc : List Nat} {rc : Nat → Nat} {ln qu : List Nat} {lg B : Nat} (hR : Rel m Ic Lc Rc LPc rc ln qu lg) (hI : Inv m B) (hB : B + 90000 < 2 ^ 30) (hs : s < mS m) : Con yX8_missed cX8_missed 2 (some .int) 7 0 0 cy [.ref (ka S 30 0), .int (nI s)] (wm cy S I L R) (fun r w' => r = some (.int (m.1 46 s)) ∧ MX cy S R m 0 w') kF := by
  have hn : mN m := ⟨hR.1.1, hR.2.1.1⟩
  have h10 := hI.1
  have h150 := hI.2.2.1
  have hg0 := inv_g hI (by omega)
  have hkk := hI.2.2.2.1
  have hh := hI.2.2.2.2.1
  refine Con_of (by decide +kernel) (Nat.le_of_ble_eq_true rfl) ?_
  refine J_eq (lv' := [(0, .ref (ka S 30 0)), (1, .int (nI s))]) rfl rfl rfl ?_
  refine J_aload_n 0 rfl dX8_missed_0 ?_
  refine J_aload_n 0 rfl dX8_missed_1 ?_
  refine J_iload_n 1 rfl dX8_missed_2 ?_
  refine cv_8_120 (cells' := 0) (slots' := 0) dX8_missed_3 (c_X8_isNone hM hn) n30 ⟨by decide, by decide⟩ rfl rfl (by decide) (by decide) (Nat.le_of_ble_eq_true rfl) (fun _ _ r1 => ?_) (fun _ _ h => h.elim)
  obtain ⟨rfl, rfl⟩ := r1
  refine J_eq (st' := [.int (kb (!(decide (0 ≤ (nI s)) && decide ((nI s) ≤ nI (mS m) - 1)))), .ref (ka S 30 0)]) rfl rfl rfl ?_
  refine J_topeq 0 (by rw [none_f (n := mS m) (by omega) (by assumption)]; rfl) ?_
  refine J_if_eq 13 (by decide) dX8_missed_6 (fun c2 => ?_) (fun c2 => ?_)
  rotate_left
  · exact absurd (by decide) c2
  refine J_iconst (v := 0) (by decide) dX8_missed_13 ?_
  refine cv_8_113 (cells' := 0) (slots' := 0) dX8_missed_14 (c_X8_failsE (x := 0)) n30 ⟨by decide, by decide⟩ rfl rfl (by decide) (by decide) (Nat.le_of_ble_eq_true rfl) (fun _ _ r3 => ?_) (fun _ _ h => h.elim)
  obtain ⟨rfl, rfl⟩ := r3
  refine J_eq (st' := [.int (kb (decide (0 < (0 : Int32))))]) rfl rfl rfl ?_
  have hM4 := MR_cd hM (v := 0)
  refine J_topeq 0 (by decide) ?_
  refine J_if_eq 24 (by decide) dX8_missed_17 (fun c5 => ?_) (fun c5 => ?_)
  rotate_left
  · exact absurd (by decide) c5
  refine J_aload_n 0 rfl dX8_missed_24 ?_
  refine gf_8_26 n30 dX8_missed_25 ?_
  refine J_iload_n 1 rfl dX8_missed_28 ?_
  refine J_iald s 0 n46 rfl rfl (vp_in_nI (by omega) (by decide)) (nI_toNat (by omega)) dX8_missed_29 ?_
  refine J_topeq (m.1 46 s) (hM4.1 46 s rfl) ?_
  exact J_ireturn rfl (by first | rfl | assumption | simp [kb_nar]) dX8_missed_30 (⟨rfl, _, _, rfl, hM4⟩) (by omega) (by omega)

set_option maxRecDepth 20000 in
set_option maxHeartbeats 1000000 in
theorem c_X8_missed_x {cy : Nat → ClassId} {S : Nat → Nat → Nat} {I : kI} {L : kL} {R : kRf} {m : Mu} {cd : Int32} {x : Int32} (hM : MR m cd I L) {Ic : kI} {Lc : kL} {Rc : kRf} {LPc : List Nat} {rc : Nat → Nat} {ln qu : List Nat} {lg B : Nat} (hR : Rel m Ic Lc Rc LPc rc ln qu lg) (hI : Inv m B) (hB : B + 90000 < 2 ^ 30) (hx : ∀ s, s < mS m → x ≠ nI s) : Con yX8_missed cX8_missed 2 (some .int) 7 0 0 cy [.ref (ka S 30 0), .int x] (wm cy S I L R) (fun r w' => r = some (.int 0) ∧ MX cy S R m 1 w') kF := by
  have hn : mN m := ⟨hR.1.1, hR.2.1.1⟩
  have h10 := hI.1
  have h150 := hI.2.2.1
  have hg0 := inv_g hI (by omega)
  have hkk := hI.2.2.2.1
  have hh := hI.2.2.2.2.1
  refine Con_of (by decide +kernel) (Nat.le_of_ble_eq_true rfl) ?_
  refine J_eq (lv' := [(0, .ref (ka S 30 0)), (1, .int x)]) rfl rfl rfl ?_
  refine J_aload_n 0 rfl dX8_missed_0 ?_
  refine J_aload_n 0 rfl dX8_missed_1 ?_
  refine J_iload_n 1 rfl dX8_missed_2 ?_
  refine cv_8_120 (cells' := 0) (slots' := 0) dX8_missed_3 (c_X8_isNone hM hn) n30 ⟨by decide, by decide⟩ rfl rfl (by decide) (by decide) (Nat.le_of_ble_eq_true rfl) (fun _ _ r1 => ?_) (fun _ _ h => h.elim)
  obtain ⟨rfl, rfl⟩ := r1
  refine J_eq (st' := [.int (kb (!(decide (0 ≤ x) && decide (x ≤ nI (mS m) - 1)))), .ref (ka S 30 0)]) rfl rfl rfl ?_
  refine J_topeq 1 (by rw [none_t (n := mS m) (by omega) (by assumption)]; rfl) ?_
  refine J_if_eq 13 (by decide) dX8_missed_6 (fun c2 => ?_) (fun c2 => ?_)
  · exact absurd c2 (by decide)
  refine J_iconst (v := 1) (by decide) dX8_missed_9 ?_
  refine J_goto 14 (by decide) dX8_missed_10 ?_
  refine cv_8_113 (cells' := 0) (slots' := 0) dX8_missed_14 (c_X8_failsE (x := 1)) n30 ⟨by decide, by decide⟩ rfl rfl (by decide) (by decide) (Nat.le_of_ble_eq_true rfl) (fun _ _ r3 => ?_) (fun _ _ h => h.elim)
  obtain ⟨rfl, rfl⟩ := r3
  refine J_eq (st' := [.int (kb (decide (0 < (1 : Int32))))]) rfl rfl rfl ?_
  have hM4 := MR_cd hM (v := 1)
  refine J_topeq 1 (by decide) ?_
  refine J_if_eq 24 (by decide) dX8_missed_17 (fun c5 => ?_) (fun c5 => ?_)
  · exact absurd c5 (by decide)
  refine J_iconst (v := 0) (by decide) dX8_missed_20 ?_
  refine J_goto 30 (by decide) dX8_missed_21 ?_
  exact J_ireturn rfl (by first | rfl | assumption | simp [kb_nar]) dX8_missed_30 (⟨rfl, _, _, rfl, hM4⟩) (by omega) (by omega)

set_option maxRecDepth 20000 in
set_option maxHeartbeats 1000000 in
theorem c_X8_isOn_s {cy : Nat → ClassId} {S : Nat → Nat → Nat} {I : kI} {L : kL} {R : kRf} {m : Mu} {cd : Int32} {s : Nat} (hM : MR m cd I L) {Ic : kI} {Lc : kL} {Rc : kRf} {LPc : List Nat} {rc : Nat → Nat} {ln qu : List Nat} {lg B : Nat} (hR : Rel m Ic Lc Rc LPc rc ln qu lg) (hI : Inv m B) (hB : B + 90000 < 2 ^ 30) (hs : s < mS m) : Con yX8_isOn cX8_isOn 2 (some .boolean) 7 0 0 cy [.ref (ka S 30 0), .int (nI s)] (wm cy S I L R) (fun r w' => r = some (.int (if m.1 43 s = 0 then 1 else 0)) ∧ MX cy S R m 0 w') kF := by
  have hn : mN m := ⟨hR.1.1, hR.2.1.1⟩
  have h10 := hI.1
  have h150 := hI.2.2.1
  have hg0 := inv_g hI (by omega)
  have hkk := hI.2.2.2.1
  have hh := hI.2.2.2.2.1
  refine Con_of (by decide +kernel) (Nat.le_of_ble_eq_true rfl) ?_
  refine J_eq (lv' := [(0, .ref (ka S 30 0)), (1, .int (nI s))]) rfl rfl rfl ?_
  refine J_aload_n 0 rfl dX8_isOn_0 ?_
  refine J_aload_n 0 rfl dX8_isOn_1 ?_
  refine J_iload_n 1 rfl dX8_isOn_2 ?_
  refine cv_8_120 (cells' := 0) (slots' := 0) dX8_isOn_3 (c_X8_isNone hM hn) n30 ⟨by decide, by decide⟩ rfl rfl (by decide) (by decide) (Nat.le_of_ble_eq_true rfl) (fun _ _ r1 => ?_) (fun _ _ h => h.elim)
  obtain ⟨rfl, rfl⟩ := r1
  refine J_eq (st' := [.int (kb (!(decide (0 ≤ (nI s)) && decide ((nI s) ≤ nI (mS m) - 1)))), .ref (ka S 30 0)]) rfl rfl rfl ?_
  refine J_topeq 0 (by rw [none_f (n := mS m) (by omega) (by assumption)]; rfl) ?_
  refine J_if_eq 13 (by decide) dX8_isOn_6 (fun c2 => ?_) (fun c2 => ?_)
  rotate_left
  · exact absurd (by decide) c2
  refine J_iconst (v := 0) (by decide) dX8_isOn_13 ?_
  refine cv_8_113 (cells' := 0) (slots' := 0) dX8_isOn_14 (c_X8_failsE (x := 0)) n30 ⟨by decide, by decide⟩ rfl rfl (by decide) (by decide) (Nat.le_of_ble_eq_true rfl) (fun _ _ r3 => ?_) (fun _ _ h => h.elim)
  obtain ⟨rfl, rfl⟩ := r3
  refine J_eq (st' := [.int (kb (decide (0 < (0 : Int32))))]) rfl rfl rfl ?_
  have hM4 := MR_cd hM (v := 0)
  refine J_topeq 0 (by decide) ?_
  refine J_if_ne 33 (by decide) dX8_isOn_17 (fun c5 => ?_) (fun c5 => ?_)
  · exact absurd (by decide) c5
  refine J_aload_n 0 rfl dX8_isOn_20 ?_
  refine gf_8_16 n30 dX8_isOn_21 ?_
  refine J_iload_n 1 rfl dX8_isOn_24 ?_
  refine J_zald s 2 n43 rfl rfl (vp_in_nI (by omega) (by decide)) (nI_toNat (by omega)) dX8_isOn_25 ?_
  refine J_topeq (m.1 43 s) (hM4.1 43 s rfl) ?_
  refine J_if_ne 33 (by decide) dX8_isOn_26 (fun c6 => ?_) (fun c6 => ?_)
  · skip
    refine J_iconst (v := 0) (by decide) dX8_isOn_33 ?_
    exact J_ireturn rfl (by first | rfl | assumption | simp [kb_nar]) dX8_isOn_34 (⟨by first | (rw [if_pos (by assumption)]) | (rw [if_neg (by assumption)]), _, _, rfl, hM4⟩) (by omega) (by omega)
  · skip
    refine J_iconst (v := 1) (by decide) dX8_isOn_29 ?_
    refine J_goto 34 (by decide) dX8_isOn_30 ?_
    exact J_ireturn rfl (by first | rfl | assumption | simp [kb_nar]) dX8_isOn_34 (⟨by first | (rw [if_pos (by assumption)]) | (rw [if_neg (by assumption)]), _, _, rfl, hM4⟩) (by omega) (by omega)

set_option maxRecDepth 20000 in
set_option maxHeartbeats 1000000 in
theorem c_X8_isOn_x {cy : Nat → ClassId} {S : Nat → Nat → Nat} {I : kI} {L : kL} {R : kRf} {m : Mu} {cd : Int32} {x : Int32} (hM : MR m cd I L) {Ic : kI} {Lc : kL} {Rc : kRf} {LPc : List Nat} {rc : Nat → Nat} {ln qu : List Nat} {lg B : Nat} (hR : Rel m Ic Lc Rc LPc rc ln qu lg) (hI : Inv m B) (hB : B + 90000 < 2 ^ 30) (hx : ∀ s, s < mS m → x ≠ nI s) : Con yX8_isOn cX8_isOn 2 (some .boolean) 7 0 0 cy [.ref (ka S 30 0), .int x] (wm cy S I L R) (fun r w' => r = some (.int 0) ∧ MX cy S R m 1 w') kF := by
  have hn : mN m := ⟨hR.1.1, hR.2.1.1⟩
  have h10 := hI.1
  have h150 := hI.2.2.1
  have hg0 := inv_g hI (by omega)
  have hkk := hI.2.2.2.1
  have hh := hI.2.2.2.2.1
  refine Con_of (by decide +kernel) (Nat.le_of_ble_eq_true rfl) ?_
  refine J_eq (lv' := [(0, .ref (ka S 30 0)), (1, .int x)]) rfl rfl rfl ?_
  refine J_aload_n 0 rfl dX8_isOn_0 ?_
  refine J_aload_n 0 rfl dX8_isOn_1 ?_
  refine J_iload_n 1 rfl dX8_isOn_2 ?_
  refine cv_8_120 (cells' := 0) (slots' := 0) dX8_isOn_3 (c_X8_isNone hM hn) n30 ⟨by decide, by decide⟩ rfl rfl (by decide) (by decide) (Nat.le_of_ble_eq_true rfl) (fun _ _ r1 => ?_) (fun _ _ h => h.elim)
  obtain ⟨rfl, rfl⟩ := r1
  refine J_eq (st' := [.int (kb (!(decide (0 ≤ x) && decide (x ≤ nI (mS m) - 1)))), .ref (ka S 30 0)]) rfl rfl rfl ?_
  refine J_topeq 1 (by rw [none_t (n := mS m) (by omega) (by assumption)]; rfl) ?_
  refine J_if_eq 13 (by decide) dX8_isOn_6 (fun c2 => ?_) (fun c2 => ?_)
  · exact absurd c2 (by decide)
  refine J_iconst (v := 1) (by decide) dX8_isOn_9 ?_
  refine J_goto 14 (by decide) dX8_isOn_10 ?_
  refine cv_8_113 (cells' := 0) (slots' := 0) dX8_isOn_14 (c_X8_failsE (x := 1)) n30 ⟨by decide, by decide⟩ rfl rfl (by decide) (by decide) (Nat.le_of_ble_eq_true rfl) (fun _ _ r3 => ?_) (fun _ _ h => h.elim)
  obtain ⟨rfl, rfl⟩ := r3
  refine J_eq (st' := [.int (kb (decide (0 < (1 : Int32))))]) rfl rfl rfl ?_
  have hM4 := MR_cd hM (v := 1)
  refine J_topeq 1 (by decide) ?_
  refine J_if_ne 33 (by decide) dX8_isOn_17 (fun c5 => ?_) (fun c5 => ?_)
  rotate_left
  · exact absurd c5 (by decide)
  refine J_iconst (v := 0) (by decide) dX8_isOn_33 ?_
  exact J_ireturn rfl (by first | rfl | assumption | simp [kb_nar]) dX8_isOn_34 (⟨rfl, _, _, rfl, hM4⟩) (by omega) (by omega)

set_option maxRecDepth 20000 in
set_option maxHeartbeats 1000000 in
theorem c_X8_stations_s {cy : Nat → ClassId} {S : Nat → Nat → Nat} {I : kI} {L : kL} {R : kRf} {m : Mu} {cd : Int32}  (hM : MR m cd I L) {Ic : kI} {Lc : kL} {Rc : kRf} {LPc : List Nat} {rc : Nat → Nat} {ln qu : List Nat} {lg B : Nat} (hR : Rel m Ic Lc Rc LPc rc ln qu lg) (hI : Inv m B) (hB : B + 90000 < 2 ^ 30)  : Con yX8_stations cX8_stations 1 (some .int) 7 0 0 cy [.ref (ka S 30 0)] (wm cy S I L R) (fun r w' => r = some (.int (m.1 30 0)) ∧ MX cy S R m 0 w') kF := by
  have hn : mN m := ⟨hR.1.1, hR.2.1.1⟩
  have h10 := hI.1
  have h150 := hI.2.2.1
  have hg0 := inv_g hI (by omega)
  have hkk := hI.2.2.2.1
  have hh := hI.2.2.2.2.1
  refine Con_of (by decide +kernel) (Nat.le_of_ble_eq_true rfl) ?_
  refine J_eq (lv' := [(0, .ref (ka S 30 0))]) rfl rfl rfl ?_
  refine J_aload_n 0 rfl dX8_stations_0 ?_
  refine J_aload_n 0 rfl dX8_stations_1 ?_
  refine gf_8_88 n30 dX8_stations_2 ?_
  refine J_topeq (m.1 30 0) ((hM.1 30 0 rfl).trans (by rfl)) ?_
  refine cv_8_129 (cells' := 0) (slots' := 0) dX8_stations_5 (c_X8_tells (x := (m.1 30 0)) hM) n30 ⟨by decide, by decide⟩ rfl rfl (by decide) (by decide) (Nat.le_of_ble_eq_true rfl) (fun _ _ r2 => ?_) (fun _ _ h => h.elim)
  obtain ⟨rfl, I1, L1, rfl, hM1⟩ := r2
  refine J_eq (st' := [.int (m.1 30 0)]) rfl rfl rfl ?_
  exact J_ireturn rfl (by first | rfl | assumption | simp [kb_nar]) dX8_stations_8 (⟨rfl, _, _, rfl, hM1⟩) (by omega) (by omega)

set_option maxRecDepth 20000 in
set_option maxHeartbeats 1000000 in
theorem c_X8_time_s {cy : Nat → ClassId} {S : Nat → Nat → Nat} {I : kI} {L : kL} {R : kRf} {m : Mu} {cd : Int32}  (hM : MR m cd I L) {Ic : kI} {Lc : kL} {Rc : kRf} {LPc : List Nat} {rc : Nat → Nat} {ln qu : List Nat} {lg B : Nat} (hR : Rel m Ic Lc Rc LPc rc ln qu lg) (hI : Inv m B) (hB : B + 90000 < 2 ^ 30)  : Con yX8_time cX8_time 1 (some .int) 7 0 0 cy [.ref (ka S 30 0)] (wm cy S I L R) (fun r w' => r = some (.int (m.1 30 26)) ∧ MX cy S R m 0 w') kF := by
  have hn : mN m := ⟨hR.1.1, hR.2.1.1⟩
  have h10 := hI.1
  have h150 := hI.2.2.1
  have hg0 := inv_g hI (by omega)
  have hkk := hI.2.2.2.1
  have hh := hI.2.2.2.2.1
  refine Con_of (by decide +kernel) (Nat.le_of_ble_eq_true rfl) ?_
  refine J_eq (lv' := [(0, .ref (ka S 30 0))]) rfl rfl rfl ?_
  refine J_aload_n 0 rfl dX8_time_0 ?_
  refine J_aload_n 0 rfl dX8_time_1 ?_
  refine gf_8_85 n30 dX8_time_2 ?_
  refine J_topeq (m.1 30 26) (hM.1 30 26 rfl) ?_
  refine cv_8_129 (cells' := 0) (slots' := 0) dX8_time_5 (c_X8_tells (x := (m.1 30 26)) hM) n30 ⟨by decide, by decide⟩ rfl rfl (by decide) (by decide) (Nat.le_of_ble_eq_true rfl) (fun _ _ r2 => ?_) (fun _ _ h => h.elim)
  obtain ⟨rfl, I1, L1, rfl, hM1⟩ := r2
  refine J_eq (st' := [.int (m.1 30 26)]) rfl rfl rfl ?_
  exact J_ireturn rfl (by first | rfl | assumption | simp [kb_nar]) dX8_time_8 (⟨rfl, _, _, rfl, hM1⟩) (by omega) (by omega)

set_option maxRecDepth 20000 in
set_option maxHeartbeats 1000000 in
theorem c_X8_calls_s {cy : Nat → ClassId} {S : Nat → Nat → Nat} {I : kI} {L : kL} {R : kRf} {m : Mu} {cd : Int32}  (hM : MR m cd I L) {Ic : kI} {Lc : kL} {Rc : kRf} {LPc : List Nat} {rc : Nat → Nat} {ln qu : List Nat} {lg B : Nat} (hR : Rel m Ic Lc Rc LPc rc ln qu lg) (hI : Inv m B) (hB : B + 90000 < 2 ^ 30)  : Con yX8_calls cX8_calls 1 (some .int) 7 0 0 cy [.ref (ka S 30 0)] (wm cy S I L R) (fun r w' => r = some (.int (m.1 30 10)) ∧ MX cy S R m 0 w') kF := by
  have hn : mN m := ⟨hR.1.1, hR.2.1.1⟩
  have h10 := hI.1
  have h150 := hI.2.2.1
  have hg0 := inv_g hI (by omega)
  have hkk := hI.2.2.2.1
  have hh := hI.2.2.2.2.1
  refine Con_of (by decide +kernel) (Nat.le_of_ble_eq_true rfl) ?_
  refine J_eq (lv' := [(0, .ref (ka S 30 0))]) rfl rfl rfl ?_
  refine J_aload_n 0 rfl dX8_calls_0 ?_
  refine J_aload_n 0 rfl dX8_calls_1 ?_
  refine gf_8_135 n30 dX8_calls_2 ?_
  refine J_topeq (m.1 30 10) ((hM.1 30 10 rfl).trans (by rfl)) ?_
  refine cv_8_129 (cells' := 0) (slots' := 0) dX8_calls_5 (c_X8_tells (x := (m.1 30 10)) hM) n30 ⟨by decide, by decide⟩ rfl rfl (by decide) (by decide) (Nat.le_of_ble_eq_true rfl) (fun _ _ r2 => ?_) (fun _ _ h => h.elim)
  obtain ⟨rfl, I1, L1, rfl, hM1⟩ := r2
  refine J_eq (st' := [.int (m.1 30 10)]) rfl rfl rfl ?_
  exact J_ireturn rfl (by first | rfl | assumption | simp [kb_nar]) dX8_calls_8 (⟨rfl, _, _, rfl, hM1⟩) (by omega) (by omega)

set_option maxRecDepth 20000 in
set_option maxHeartbeats 1000000 in
theorem c_X8_logged_s {cy : Nat → ClassId} {S : Nat → Nat → Nat} {I : kI} {L : kL} {R : kRf} {m : Mu} {cd : Int32}  (hM : MR m cd I L) {Ic : kI} {Lc : kL} {Rc : kRf} {LPc : List Nat} {rc : Nat → Nat} {ln qu : List Nat} {lg B : Nat} (hR : Rel m Ic Lc Rc LPc rc ln qu lg) (hI : Inv m B) (hB : B + 90000 < 2 ^ 30)  : Con yX8_logged cX8_logged 1 (some .int) 7 0 0 cy [.ref (ka S 30 0)] (wm cy S I L R) (fun r w' => r = some (.int (m.1 30 27)) ∧ MX cy S R m 0 w') kF := by
  have hn : mN m := ⟨hR.1.1, hR.2.1.1⟩
  have h10 := hI.1
  have h150 := hI.2.2.1
  have hg0 := inv_g hI (by omega)
  have hkk := hI.2.2.2.1
  have hh := hI.2.2.2.2.1
  refine Con_of (by decide +kernel) (Nat.le_of_ble_eq_true rfl) ?_
  refine J_eq (lv' := [(0, .ref (ka S 30 0))]) rfl rfl rfl ?_
  refine J_aload_n 0 rfl dX8_logged_0 ?_
  refine J_aload_n 0 rfl dX8_logged_1 ?_
  refine gf_8_82 n30 dX8_logged_2 ?_
  refine J_topeq (m.1 30 27) (hM.1 30 27 rfl) ?_
  refine cv_8_129 (cells' := 0) (slots' := 0) dX8_logged_5 (c_X8_tells (x := (m.1 30 27)) hM) n30 ⟨by decide, by decide⟩ rfl rfl (by decide) (by decide) (Nat.le_of_ble_eq_true rfl) (fun _ _ r2 => ?_) (fun _ _ h => h.elim)
  obtain ⟨rfl, I1, L1, rfl, hM1⟩ := r2
  refine J_eq (st' := [.int (m.1 30 27)]) rfl rfl rfl ?_
  exact J_ireturn rfl (by first | rfl | assumption | simp [kb_nar]) dX8_logged_8 (⟨rfl, _, _, rfl, hM1⟩) (by omega) (by omega)

set_option maxRecDepth 20000 in
set_option maxHeartbeats 1000000 in
theorem c_X8_waiting_s {cy : Nat → ClassId} {S : Nat → Nat → Nat} {I : kI} {L : kL} {R : kRf} {m : Mu} {cd : Int32}  (hM : MR m cd I L) {Ic : kI} {Lc : kL} {Rc : kRf} {LPc : List Nat} {rc : Nat → Nat} {ln qu : List Nat} {lg B : Nat} (hR : Rel m Ic Lc Rc LPc rc ln qu lg) (hI : Inv m B) (hB : B + 90000 < 2 ^ 30)  : Con yX8_waiting cX8_waiting 1 (some .int) 7 0 0 cy [.ref (ka S 30 0)] (wm cy S I L R) (fun r w' => r = some (.int (nI (mMany m 119))) ∧ MX cy S R m 0 w') kF := by
  have hn : mN m := ⟨hR.1.1, hR.2.1.1⟩
  have h10 := hI.1
  have h150 := hI.2.2.1
  have hg0 := inv_g hI (by omega)
  have hkk := hI.2.2.2.1
  have hh := hI.2.2.2.2.1
  refine Con_of (by decide +kernel) (Nat.le_of_ble_eq_true rfl) ?_
  refine J_eq (lv' := [(0, .ref (ka S 30 0))]) rfl rfl rfl ?_
  refine J_aload_n 0 rfl dX8_waiting_0 ?_
  refine J_aload_n 0 rfl dX8_waiting_1 ?_
  refine J_bipush (v := 119) (by decide) dX8_waiting_2 ?_
  refine cv_8_187 (cells' := 0) (slots' := 0) dX8_waiting_4 (c_X8_many hM hn h150) n30 ⟨by decide, by decide⟩ rfl rfl (by decide) (by decide) (Nat.le_of_ble_eq_true rfl) (fun _ _ r1 => ?_) (fun _ _ h => h.elim)
  obtain ⟨rfl, rfl⟩ := r1
  refine J_eq (st' := [.int (nI (mMany m 119)), .ref (ka S 30 0)]) rfl rfl rfl ?_
  refine cv_8_129 (cells' := 0) (slots' := 0) dX8_waiting_7 (c_X8_tells (x := (nI (mMany m 119))) hM) n30 ⟨by decide, by decide⟩ rfl rfl (by decide) (by decide) (Nat.le_of_ble_eq_true rfl) (fun _ _ r3 => ?_) (fun _ _ h => h.elim)
  obtain ⟨rfl, I2, L2, rfl, hM2⟩ := r3
  refine J_eq (st' := [.int (nI (mMany m 119))]) rfl rfl rfl ?_
  exact J_ireturn rfl (by first | rfl | assumption | simp [kb_nar]) dX8_waiting_10 (⟨rfl, _, _, rfl, hM2⟩) (by omega) (by omega)

set_option maxRecDepth 20000 in
set_option maxHeartbeats 1000000 in
theorem c_X8_waited_s {cy : Nat → ClassId} {S : Nat → Nat → Nat} {I : kI} {L : kL} {R : kRf} {m : Mu} {cd : Int32}  (hM : MR m cd I L) {Ic : kI} {Lc : kL} {Rc : kRf} {LPc : List Nat} {rc : Nat → Nat} {ln qu : List Nat} {lg B : Nat} (hR : Rel m Ic Lc Rc LPc rc ln qu lg) (hI : Inv m B) (hB : B + 90000 < 2 ^ 30)  : Con yX8_waited cX8_waited 1 (some .long) 7 0 0 cy [.ref (ka S 30 0)] (wm cy S I L R) (fun r w' => r = some (.long m.2) ∧ MX cy S R m 0 w') kF := by
  have hn : mN m := ⟨hR.1.1, hR.2.1.1⟩
  have h10 := hI.1
  have h150 := hI.2.2.1
  have hg0 := inv_g hI (by omega)
  have hkk := hI.2.2.2.1
  have hh := hI.2.2.2.2.1
  refine Con_of (by decide +kernel) (Nat.le_of_ble_eq_true rfl) ?_
  refine J_eq (lv' := [(0, .ref (ka S 30 0))]) rfl rfl rfl ?_
  refine J_aload_n 0 rfl dX8_waited_0 ?_
  refine J_iconst (v := 0) (by decide) dX8_waited_1 ?_
  refine pf_8_78 n30 dX8_waited_2 ?_
  have hM1 := MR_cd hM (v := 0)
  refine J_aload_n 0 rfl dX8_waited_5 ?_
  refine gf_8_209 n30 dX8_waited_6 ?_
  refine J_eq (st' := [.long m.2]) rfl rfl (by rw [hM1.2.2]) ?_
  exact J_lreturn rfl dX8_waited_9 (⟨rfl, _, _, rfl, hM1⟩) (by omega) (by omega)

set_option maxRecDepth 20000 in
set_option maxHeartbeats 1000000 in
theorem c_X8_areNoTwo_s {cy : Nat → ClassId} {S : Nat → Nat → Nat} {I : kI} {L : kL} {R : kRf} {m : Mu} {cd : Int32} {s t : Nat} (hM : MR m cd I L) {Ic : kI} {Lc : kL} {Rc : kRf} {LPc : List Nat} {rc : Nat → Nat} {ln qu : List Nat} {lg B : Nat} (hR : Rel m Ic Lc Rc LPc rc ln qu lg) (hI : Inv m B) (hB : B + 90000 < 2 ^ 30) (hs : s < mS m) (ht : t < mS m) (hne : s ≠ t) : Con yX8_areNoTwo cX8_areNoTwo 3 (some .boolean) 2 0 0 cy [.ref (ka S 30 0), .int (nI s), .int (nI t)] (wm cy S I L R) (fun r w' => r = some (.int 0) ∧ MX cy S R m 0 w') kF := by
  have hn : mN m := ⟨hR.1.1, hR.2.1.1⟩
  have h10 := hI.1
  have h150 := hI.2.2.1
  have hg0 := inv_g hI (by omega)
  have hkk := hI.2.2.2.1
  have hh := hI.2.2.2.2.1
  refine Con_of (by decide +kernel) (Nat.le_of_ble_eq_true rfl) ?_
  refine J_eq (lv' := [(0, .ref (ka S 30 0)), (1, .int (nI s)), (2, .int (nI t))]) rfl rfl rfl ?_
  refine J_aload_n 0 rfl dX8_areNoTwo_0 ?_
  refine J_aload_n 0 rfl dX8_areNoTwo_1 ?_
  refine J_iload_n 1 rfl dX8_areNoTwo_2 ?_
  refine cv_8_120 (cells' := 0) (slots' := 0) dX8_areNoTwo_3 (c_X8_isNone hM hn) n30 ⟨by decide, by decide⟩ rfl rfl (by decide) (by decide) (Nat.le_of_ble_eq_true rfl) (fun _ _ r1 => ?_) (fun _ _ h => h.elim)
  obtain ⟨rfl, rfl⟩ := r1
  refine J_eq (st' := [.int (kb (!(decide (0 ≤ (nI s)) && decide ((nI s) ≤ nI (mS m) - 1)))), .ref (ka S 30 0)]) rfl rfl rfl ?_
  refine J_topeq 0 (by rw [none_f (n := mS m) (by omega) (by assumption)]; rfl) ?_
  refine J_if_ne 17 (by decide) dX8_areNoTwo_6 (fun c2 => ?_) (fun c2 => ?_)
  · exact absurd (by decide) c2
  refine J_aload_n 0 rfl dX8_areNoTwo_9 ?_
  refine J_iload_n 2 rfl dX8_areNoTwo_10 ?_
  refine cv_8_120 (cells' := 0) (slots' := 0) dX8_areNoTwo_11 (c_X8_isNone hM hn) n30 ⟨by decide, by decide⟩ rfl rfl (by decide) (by decide) (Nat.le_of_ble_eq_true rfl) (fun _ _ r3 => ?_) (fun _ _ h => h.elim)
  obtain ⟨rfl, rfl⟩ := r3
  refine J_eq (st' := [.int (kb (!(decide (0 ≤ (nI t)) && decide ((nI t) ≤ nI (mS m) - 1)))), .ref (ka S 30 0)]) rfl rfl rfl ?_
  refine J_topeq 0 (by rw [none_f (n := mS m) (by omega) (by assumption)]; rfl) ?_
  refine J_if_eq 21 (by decide) dX8_areNoTwo_14 (fun c4 => ?_) (fun c4 => ?_)
  rotate_left
  · exact absurd (by decide) c4
  refine J_iload_n 1 rfl dX8_areNoTwo_21 ?_
  refine J_iload_n 2 rfl dX8_areNoTwo_22 ?_
  refine J_icmp_ne 30 (by decide) dX8_areNoTwo_23 (fun c5 => ?_) (fun c5 => ?_)
  rotate_left
  · exfalso
    have Nc5 : s = t := (nI_eqL (a := s) (b := t) (by omega) (by omega)).mp c5
    omega
  have Nc5 : ¬ (s = t) := fun q => c5 ((nI_eqL (a := s) (b := t) (by omega) (by omega)).mpr q)
  refine J_iconst (v := 0) (by decide) dX8_areNoTwo_30 ?_
  refine cv_8_113 (cells' := 0) (slots' := 0) dX8_areNoTwo_31 (c_X8_failsE (x := 0)) n30 ⟨by decide, by decide⟩ rfl rfl (by decide) (by decide) (Nat.le_of_ble_eq_true rfl) (fun _ _ r6 => ?_) (fun _ _ h => h.elim)
  obtain ⟨rfl, rfl⟩ := r6
  refine J_eq (st' := [.int (kb (decide (0 < (0 : Int32))))]) rfl rfl rfl ?_
  have hM7 := MR_cd hM (v := 0)
  refine J_topeq 0 (by decide) ?_
  exact J_ireturn rfl (by first | rfl | assumption | simp [kb_nar]) dX8_areNoTwo_34 (⟨rfl, _, _, rfl, hM7⟩) (by omega) (by omega)

set_option maxRecDepth 20000 in
set_option maxHeartbeats 1000000 in
theorem c_X8_areNoTwo_e {cy : Nat → ClassId} {S : Nat → Nat → Nat} {I : kI} {L : kL} {R : kRf} {m : Mu} {cd : Int32} {s : Nat} (hM : MR m cd I L) {Ic : kI} {Lc : kL} {Rc : kRf} {LPc : List Nat} {rc : Nat → Nat} {ln qu : List Nat} {lg B : Nat} (hR : Rel m Ic Lc Rc LPc rc ln qu lg) (hI : Inv m B) (hB : B + 90000 < 2 ^ 30) (hs : s < mS m) : Con yX8_areNoTwo cX8_areNoTwo 3 (some .boolean) 2 0 0 cy [.ref (ka S 30 0), .int (nI s), .int (nI s)] (wm cy S I L R) (fun r w' => r = some (.int 1) ∧ MX cy S R m 2 w') kF := by
  have hn : mN m := ⟨hR.1.1, hR.2.1.1⟩
  have h10 := hI.1
  have h150 := hI.2.2.1
  have hg0 := inv_g hI (by omega)
  have hkk := hI.2.2.2.1
  have hh := hI.2.2.2.2.1
  refine Con_of (by decide +kernel) (Nat.le_of_ble_eq_true rfl) ?_
  refine J_eq (lv' := [(0, .ref (ka S 30 0)), (1, .int (nI s)), (2, .int (nI s))]) rfl rfl rfl ?_
  refine J_aload_n 0 rfl dX8_areNoTwo_0 ?_
  refine J_aload_n 0 rfl dX8_areNoTwo_1 ?_
  refine J_iload_n 1 rfl dX8_areNoTwo_2 ?_
  refine cv_8_120 (cells' := 0) (slots' := 0) dX8_areNoTwo_3 (c_X8_isNone hM hn) n30 ⟨by decide, by decide⟩ rfl rfl (by decide) (by decide) (Nat.le_of_ble_eq_true rfl) (fun _ _ r1 => ?_) (fun _ _ h => h.elim)
  obtain ⟨rfl, rfl⟩ := r1
  refine J_eq (st' := [.int (kb (!(decide (0 ≤ (nI s)) && decide ((nI s) ≤ nI (mS m) - 1)))), .ref (ka S 30 0)]) rfl rfl rfl ?_
  refine J_topeq 0 (by rw [none_f (n := mS m) (by omega) (by assumption)]; rfl) ?_
  refine J_if_ne 17 (by decide) dX8_areNoTwo_6 (fun c2 => ?_) (fun c2 => ?_)
  · exact absurd (by decide) c2
  refine J_aload_n 0 rfl dX8_areNoTwo_9 ?_
  refine J_iload_n 2 rfl dX8_areNoTwo_10 ?_
  refine cv_8_120 (cells' := 0) (slots' := 0) dX8_areNoTwo_11 (c_X8_isNone hM hn) n30 ⟨by decide, by decide⟩ rfl rfl (by decide) (by decide) (Nat.le_of_ble_eq_true rfl) (fun _ _ r3 => ?_) (fun _ _ h => h.elim)
  obtain ⟨rfl, rfl⟩ := r3
  refine J_eq (st' := [.int (kb (!(decide (0 ≤ (nI s)) && decide ((nI s) ≤ nI (mS m) - 1)))), .ref (ka S 30 0)]) rfl rfl rfl ?_
  refine J_topeq 0 (by rw [none_f (n := mS m) (by omega) (by assumption)]; rfl) ?_
  refine J_if_eq 21 (by decide) dX8_areNoTwo_14 (fun c4 => ?_) (fun c4 => ?_)
  rotate_left
  · exact absurd (by decide) c4
  refine J_iload_n 1 rfl dX8_areNoTwo_21 ?_
  refine J_iload_n 2 rfl dX8_areNoTwo_22 ?_
  refine J_icmp_ne 30 (by decide) dX8_areNoTwo_23 (fun c5 => ?_) (fun c5 => ?_)
  · exfalso
    have Nc5 : ¬ (s = s) := fun q => c5 ((nI_eqL (a := s) (b := s) (by omega) (by omega)).mpr q)
    omega
  have Nc5 : s = s := (nI_eqL (a := s) (b := s) (by omega) (by omega)).mp c5
  refine J_iconst (v := 2) (by decide) dX8_areNoTwo_26 ?_
  refine J_goto 31 (by decide) dX8_areNoTwo_27 ?_
  refine cv_8_113 (cells' := 0) (slots' := 0) dX8_areNoTwo_31 (c_X8_failsE (x := 2)) n30 ⟨by decide, by decide⟩ rfl rfl (by decide) (by decide) (Nat.le_of_ble_eq_true rfl) (fun _ _ r6 => ?_) (fun _ _ h => h.elim)
  obtain ⟨rfl, rfl⟩ := r6
  refine J_eq (st' := [.int (kb (decide (0 < (2 : Int32))))]) rfl rfl rfl ?_
  have hM7 := MR_cd hM (v := 2)
  refine J_topeq 1 (by decide) ?_
  exact J_ireturn rfl (by first | rfl | assumption | simp [kb_nar]) dX8_areNoTwo_34 (⟨rfl, _, _, rfl, hM7⟩) (by omega) (by omega)

set_option maxRecDepth 20000 in
set_option maxHeartbeats 1000000 in
theorem c_X8_areNoTwo_x {cy : Nat → ClassId} {S : Nat → Nat → Nat} {I : kI} {L : kL} {R : kRf} {m : Mu} {cd : Int32} {x y : Int32} (hM : MR m cd I L) {Ic : kI} {Lc : kL} {Rc : kRf} {LPc : List Nat} {rc : Nat → Nat} {ln qu : List Nat} {lg B : Nat} (hR : Rel m Ic Lc Rc LPc rc ln qu lg) (hI : Inv m B) (hB : B + 90000 < 2 ^ 30) (hx : ∀ s, s < mS m → x ≠ nI s) : Con yX8_areNoTwo cX8_areNoTwo 3 (some .boolean) 2 0 0 cy [.ref (ka S 30 0), .int x, .int y] (wm cy S I L R) (fun r w' => r = some (.int 1) ∧ MX cy S R m 1 w') kF := by
  have hn : mN m := ⟨hR.1.1, hR.2.1.1⟩
  have h10 := hI.1
  have h150 := hI.2.2.1
  have hg0 := inv_g hI (by omega)
  have hkk := hI.2.2.2.1
  have hh := hI.2.2.2.2.1
  refine Con_of (by decide +kernel) (Nat.le_of_ble_eq_true rfl) ?_
  refine J_eq (lv' := [(0, .ref (ka S 30 0)), (1, .int x), (2, .int y)]) rfl rfl rfl ?_
  refine J_aload_n 0 rfl dX8_areNoTwo_0 ?_
  refine J_aload_n 0 rfl dX8_areNoTwo_1 ?_
  refine J_iload_n 1 rfl dX8_areNoTwo_2 ?_
  refine cv_8_120 (cells' := 0) (slots' := 0) dX8_areNoTwo_3 (c_X8_isNone hM hn) n30 ⟨by decide, by decide⟩ rfl rfl (by decide) (by decide) (Nat.le_of_ble_eq_true rfl) (fun _ _ r1 => ?_) (fun _ _ h => h.elim)
  obtain ⟨rfl, rfl⟩ := r1
  refine J_eq (st' := [.int (kb (!(decide (0 ≤ x) && decide (x ≤ nI (mS m) - 1)))), .ref (ka S 30 0)]) rfl rfl rfl ?_
  refine J_topeq 1 (by rw [none_t (n := mS m) (by omega) (by assumption)]; rfl) ?_
  refine J_if_ne 17 (by decide) dX8_areNoTwo_6 (fun c2 => ?_) (fun c2 => ?_)
  rotate_left
  · exact absurd c2 (by decide)
  refine J_iconst (v := 1) (by decide) dX8_areNoTwo_17 ?_
  refine J_goto 31 (by decide) dX8_areNoTwo_18 ?_
  refine cv_8_113 (cells' := 0) (slots' := 0) dX8_areNoTwo_31 (c_X8_failsE (x := 1)) n30 ⟨by decide, by decide⟩ rfl rfl (by decide) (by decide) (Nat.le_of_ble_eq_true rfl) (fun _ _ r3 => ?_) (fun _ _ h => h.elim)
  obtain ⟨rfl, rfl⟩ := r3
  refine J_eq (st' := [.int (kb (decide (0 < (1 : Int32))))]) rfl rfl rfl ?_
  have hM4 := MR_cd hM (v := 1)
  refine J_topeq 1 (by decide) ?_
  exact J_ireturn rfl (by first | rfl | assumption | simp [kb_nar]) dX8_areNoTwo_34 (⟨rfl, _, _, rfl, hM4⟩) (by omega) (by omega)

set_option maxRecDepth 20000 in
set_option maxHeartbeats 1000000 in
theorem c_X8_areNoTwo_y {cy : Nat → ClassId} {S : Nat → Nat → Nat} {I : kI} {L : kL} {R : kRf} {m : Mu} {cd : Int32} {s : Nat} {x : Int32} (hM : MR m cd I L) {Ic : kI} {Lc : kL} {Rc : kRf} {LPc : List Nat} {rc : Nat → Nat} {ln qu : List Nat} {lg B : Nat} (hR : Rel m Ic Lc Rc LPc rc ln qu lg) (hI : Inv m B) (hB : B + 90000 < 2 ^ 30) (hs : s < mS m) (hx : ∀ s, s < mS m → x ≠ nI s) : Con yX8_areNoTwo cX8_areNoTwo 3 (some .boolean) 2 0 0 cy [.ref (ka S 30 0), .int (nI s), .int x] (wm cy S I L R) (fun r w' => r = some (.int 1) ∧ MX cy S R m 1 w') kF := by
  have hn : mN m := ⟨hR.1.1, hR.2.1.1⟩
  have h10 := hI.1
  have h150 := hI.2.2.1
  have hg0 := inv_g hI (by omega)
  have hkk := hI.2.2.2.1
  have hh := hI.2.2.2.2.1
  refine Con_of (by decide +kernel) (Nat.le_of_ble_eq_true rfl) ?_
  refine J_eq (lv' := [(0, .ref (ka S 30 0)), (1, .int (nI s)), (2, .int x)]) rfl rfl rfl ?_
  refine J_aload_n 0 rfl dX8_areNoTwo_0 ?_
  refine J_aload_n 0 rfl dX8_areNoTwo_1 ?_
  refine J_iload_n 1 rfl dX8_areNoTwo_2 ?_
  refine cv_8_120 (cells' := 0) (slots' := 0) dX8_areNoTwo_3 (c_X8_isNone hM hn) n30 ⟨by decide, by decide⟩ rfl rfl (by decide) (by decide) (Nat.le_of_ble_eq_true rfl) (fun _ _ r1 => ?_) (fun _ _ h => h.elim)
  obtain ⟨rfl, rfl⟩ := r1
  refine J_eq (st' := [.int (kb (!(decide (0 ≤ (nI s)) && decide ((nI s) ≤ nI (mS m) - 1)))), .ref (ka S 30 0)]) rfl rfl rfl ?_
  refine J_topeq 0 (by rw [none_f (n := mS m) (by omega) (by assumption)]; rfl) ?_
  refine J_if_ne 17 (by decide) dX8_areNoTwo_6 (fun c2 => ?_) (fun c2 => ?_)
  · exact absurd (by decide) c2
  refine J_aload_n 0 rfl dX8_areNoTwo_9 ?_
  refine J_iload_n 2 rfl dX8_areNoTwo_10 ?_
  refine cv_8_120 (cells' := 0) (slots' := 0) dX8_areNoTwo_11 (c_X8_isNone hM hn) n30 ⟨by decide, by decide⟩ rfl rfl (by decide) (by decide) (Nat.le_of_ble_eq_true rfl) (fun _ _ r3 => ?_) (fun _ _ h => h.elim)
  obtain ⟨rfl, rfl⟩ := r3
  refine J_eq (st' := [.int (kb (!(decide (0 ≤ x) && decide (x ≤ nI (mS m) - 1)))), .ref (ka S 30 0)]) rfl rfl rfl ?_
  refine J_topeq 1 (by rw [none_t (n := mS m) (by omega) (by assumption)]; rfl) ?_
  refine J_if_eq 21 (by decide) dX8_areNoTwo_14 (fun c4 => ?_) (fun c4 => ?_)
  · exact absurd c4 (by decide)
  refine J_iconst (v := 1) (by decide) dX8_areNoTwo_17 ?_
  refine J_goto 31 (by decide) dX8_areNoTwo_18 ?_
  refine cv_8_113 (cells' := 0) (slots' := 0) dX8_areNoTwo_31 (c_X8_failsE (x := 1)) n30 ⟨by decide, by decide⟩ rfl rfl (by decide) (by decide) (Nat.le_of_ble_eq_true rfl) (fun _ _ r5 => ?_) (fun _ _ h => h.elim)
  obtain ⟨rfl, rfl⟩ := r5
  refine J_eq (st' := [.int (kb (decide (0 < (1 : Int32))))]) rfl rfl rfl ?_
  have hM6 := MR_cd hM (v := 1)
  refine J_topeq 1 (by decide) ?_
  exact J_ireturn rfl (by first | rfl | assumption | simp [kb_nar]) dX8_areNoTwo_34 (⟨rfl, _, _, rfl, hM6⟩) (by omega) (by omega)

set_option maxRecDepth 20000 in
set_option maxHeartbeats 1000000 in
theorem c_X8_hears_s {cy : Nat → ClassId} {S : Nat → Nat → Nat} {I : kI} {L : kL} {R : kRf} {m : Mu} {cd : Int32} {s t : Nat} (hM : MR m cd I L) {Ic : kI} {Lc : kL} {Rc : kRf} {LPc : List Nat} {rc : Nat → Nat} {ln qu : List Nat} {lg B : Nat} (hR : Rel m Ic Lc Rc LPc rc ln qu lg) (hI : Inv m B) (hB : B + 90000 < 2 ^ 30) (hs : s < mS m) (ht : t < mS m) (hne : s ≠ t) : Con yX8_hears cX8_hears 3 (some .boolean) 7 0 0 cy [.ref (ka S 30 0), .int (nI s), .int (nI t)] (wm cy S I L R) (fun r w' => r = some (.int (kb (mAdj m s t))) ∧ MX cy S R m 0 w') kF := by
  have hn : mN m := ⟨hR.1.1, hR.2.1.1⟩
  have h10 := hI.1
  have h150 := hI.2.2.1
  have hg0 := inv_g hI (by omega)
  have hkk := hI.2.2.2.1
  have hh := hI.2.2.2.2.1
  refine Con_of (by decide +kernel) (Nat.le_of_ble_eq_true rfl) ?_
  refine J_eq (lv' := [(0, .ref (ka S 30 0)), (1, .int (nI s)), (2, .int (nI t))]) rfl rfl rfl ?_
  refine J_aload_n 0 rfl dX8_hears_0 ?_
  refine J_iload_n 1 rfl dX8_hears_1 ?_
  refine J_iload_n 2 rfl dX8_hears_2 ?_
  refine cv_8_132 (cells' := 0) (slots' := 0) dX8_hears_3 (c_X8_areNoTwo_s hM hR hI hB hs ht hne) n30 ⟨by decide, by decide⟩ rfl rfl (by decide) (by decide) (Nat.le_of_ble_eq_true rfl) (fun _ _ r2 => ?_) (fun _ _ h => h.elim)
  obtain ⟨rfl, I1, L1, rfl, hM1⟩ := r2
  refine J_eq (st' := [.int 0]) rfl rfl rfl ?_
  refine J_if_ne 22 (by decide) dX8_hears_6 (fun c3 => ?_) (fun c3 => ?_)
  · exact absurd (by decide) c3
  refine J_aload_n 0 rfl dX8_hears_9 ?_
  refine J_iload_n 1 rfl dX8_hears_10 ?_
  refine J_iload_n 2 rfl dX8_hears_11 ?_
  refine cv_8_99 (cells' := 0) (slots' := 0) dX8_hears_12 (c_X8_isHeard (a := s) (b := t) hM1 (by omega) (by omega)) n30 ⟨by decide, by decide⟩ rfl rfl (by decide) (by decide) (Nat.le_of_ble_eq_true rfl) (fun _ _ r4 => ?_) (fun _ _ h => h.elim)
  obtain ⟨rfl, rfl⟩ := r4
  refine J_eq (st' := [.int (kb (mAdj m s t))]) rfl rfl rfl ?_
  refine J_if_eq 22 (by decide) dX8_hears_15 (fun c5 => ?_) (fun c5 => ?_)
  · skip
    refine J_iconst (v := 0) (by decide) dX8_hears_22 ?_
    exact J_ireturn rfl (by first | rfl | assumption | simp [kb_nar]) dX8_hears_23 (⟨by first | (rw [show mAdj m s t = true from kb_n0.mp (by assumption)]; rfl) | (rw [show mAdj m s t = false from kb_0.mp (by assumption)]; rfl), _, _, rfl, hM1⟩) (by omega) (by omega)
  · skip
    refine J_iconst (v := 1) (by decide) dX8_hears_18 ?_
    refine J_goto 23 (by decide) dX8_hears_19 ?_
    exact J_ireturn rfl (by first | rfl | assumption | simp [kb_nar]) dX8_hears_23 (⟨by first | (rw [show mAdj m s t = true from kb_n0.mp (by assumption)]; rfl) | (rw [show mAdj m s t = false from kb_0.mp (by assumption)]; rfl), _, _, rfl, hM1⟩) (by omega) (by omega)

set_option maxRecDepth 20000 in
set_option maxHeartbeats 1000000 in
theorem c_X8_hears_e {cy : Nat → ClassId} {S : Nat → Nat → Nat} {I : kI} {L : kL} {R : kRf} {m : Mu} {cd : Int32} {s : Nat}  (hM : MR m cd I L) {Ic : kI} {Lc : kL} {Rc : kRf} {LPc : List Nat} {rc : Nat → Nat} {ln qu : List Nat} {lg B : Nat} (hR : Rel m Ic Lc Rc LPc rc ln qu lg) (hI : Inv m B) (hB : B + 90000 < 2 ^ 30) (hs : s < mS m) : Con yX8_hears cX8_hears 3 (some .boolean) 7 0 0 cy [.ref (ka S 30 0), .int (nI s), .int (nI s)] (wm cy S I L R) (fun r w' => r = some (.int 0) ∧ MX cy S R m 2 w') kF := by
  have hn : mN m := ⟨hR.1.1, hR.2.1.1⟩
  have h10 := hI.1
  have h150 := hI.2.2.1
  have hg0 := inv_g hI (by omega)
  have hkk := hI.2.2.2.1
  have hh := hI.2.2.2.2.1
  refine Con_of (by decide +kernel) (Nat.le_of_ble_eq_true rfl) ?_
  refine J_eq (lv' := [(0, .ref (ka S 30 0)), (1, .int (nI s)), (2, .int (nI s))]) rfl rfl rfl ?_
  refine J_aload_n 0 rfl dX8_hears_0 ?_
  refine J_iload_n 1 rfl dX8_hears_1 ?_
  refine J_iload_n 2 rfl dX8_hears_2 ?_
  refine cv_8_132 (cells' := 0) (slots' := 0) dX8_hears_3 (c_X8_areNoTwo_e hM hR hI hB hs) n30 ⟨by decide, by decide⟩ rfl rfl (by decide) (by decide) (Nat.le_of_ble_eq_true rfl) (fun _ _ r2 => ?_) (fun _ _ h => h.elim)
  obtain ⟨rfl, I1, L1, rfl, hM1⟩ := r2
  refine J_eq (st' := [.int 1]) rfl rfl rfl ?_
  refine J_if_ne 22 (by decide) dX8_hears_6 (fun c3 => ?_) (fun c3 => ?_)
  rotate_left
  · exact absurd c3 (by decide)
  refine J_iconst (v := 0) (by decide) dX8_hears_22 ?_
  exact J_ireturn rfl (by first | rfl | assumption | simp [kb_nar]) dX8_hears_23 (⟨rfl, _, _, rfl, hM1⟩) (by omega) (by omega)

set_option maxRecDepth 20000 in
set_option maxHeartbeats 1000000 in
theorem c_X8_hears_x {cy : Nat → ClassId} {S : Nat → Nat → Nat} {I : kI} {L : kL} {R : kRf} {m : Mu} {cd : Int32} {x y : Int32}  (hM : MR m cd I L) {Ic : kI} {Lc : kL} {Rc : kRf} {LPc : List Nat} {rc : Nat → Nat} {ln qu : List Nat} {lg B : Nat} (hR : Rel m Ic Lc Rc LPc rc ln qu lg) (hI : Inv m B) (hB : B + 90000 < 2 ^ 30) (hx : ∀ s, s < mS m → x ≠ nI s) : Con yX8_hears cX8_hears 3 (some .boolean) 7 0 0 cy [.ref (ka S 30 0), .int x, .int y] (wm cy S I L R) (fun r w' => r = some (.int 0) ∧ MX cy S R m 1 w') kF := by
  have hn : mN m := ⟨hR.1.1, hR.2.1.1⟩
  have h10 := hI.1
  have h150 := hI.2.2.1
  have hg0 := inv_g hI (by omega)
  have hkk := hI.2.2.2.1
  have hh := hI.2.2.2.2.1
  refine Con_of (by decide +kernel) (Nat.le_of_ble_eq_true rfl) ?_
  refine J_eq (lv' := [(0, .ref (ka S 30 0)), (1, .int x), (2, .int y)]) rfl rfl rfl ?_
  refine J_aload_n 0 rfl dX8_hears_0 ?_
  refine J_iload_n 1 rfl dX8_hears_1 ?_
  refine J_iload_n 2 rfl dX8_hears_2 ?_
  refine cv_8_132 (cells' := 0) (slots' := 0) dX8_hears_3 (c_X8_areNoTwo_x hM hR hI hB hx) n30 ⟨by decide, by decide⟩ rfl rfl (by decide) (by decide) (Nat.le_of_ble_eq_true rfl) (fun _ _ r2 => ?_) (fun _ _ h => h.elim)
  obtain ⟨rfl, I1, L1, rfl, hM1⟩ := r2
  refine J_eq (st' := [.int 1]) rfl rfl rfl ?_
  refine J_if_ne 22 (by decide) dX8_hears_6 (fun c3 => ?_) (fun c3 => ?_)
  rotate_left
  · exact absurd c3 (by decide)
  refine J_iconst (v := 0) (by decide) dX8_hears_22 ?_
  exact J_ireturn rfl (by first | rfl | assumption | simp [kb_nar]) dX8_hears_23 (⟨rfl, _, _, rfl, hM1⟩) (by omega) (by omega)

set_option maxRecDepth 20000 in
set_option maxHeartbeats 1000000 in
theorem c_X8_hears_y {cy : Nat → ClassId} {S : Nat → Nat → Nat} {I : kI} {L : kL} {R : kRf} {m : Mu} {cd : Int32} {s : Nat} {x : Int32}  (hM : MR m cd I L) {Ic : kI} {Lc : kL} {Rc : kRf} {LPc : List Nat} {rc : Nat → Nat} {ln qu : List Nat} {lg B : Nat} (hR : Rel m Ic Lc Rc LPc rc ln qu lg) (hI : Inv m B) (hB : B + 90000 < 2 ^ 30) (hs : s < mS m) (hx : ∀ s, s < mS m → x ≠ nI s) : Con yX8_hears cX8_hears 3 (some .boolean) 7 0 0 cy [.ref (ka S 30 0), .int (nI s), .int x] (wm cy S I L R) (fun r w' => r = some (.int 0) ∧ MX cy S R m 1 w') kF := by
  have hn : mN m := ⟨hR.1.1, hR.2.1.1⟩
  have h10 := hI.1
  have h150 := hI.2.2.1
  have hg0 := inv_g hI (by omega)
  have hkk := hI.2.2.2.1
  have hh := hI.2.2.2.2.1
  refine Con_of (by decide +kernel) (Nat.le_of_ble_eq_true rfl) ?_
  refine J_eq (lv' := [(0, .ref (ka S 30 0)), (1, .int (nI s)), (2, .int x)]) rfl rfl rfl ?_
  refine J_aload_n 0 rfl dX8_hears_0 ?_
  refine J_iload_n 1 rfl dX8_hears_1 ?_
  refine J_iload_n 2 rfl dX8_hears_2 ?_
  refine cv_8_132 (cells' := 0) (slots' := 0) dX8_hears_3 (c_X8_areNoTwo_y hM hR hI hB hs hx) n30 ⟨by decide, by decide⟩ rfl rfl (by decide) (by decide) (Nat.le_of_ble_eq_true rfl) (fun _ _ r2 => ?_) (fun _ _ h => h.elim)
  obtain ⟨rfl, I1, L1, rfl, hM1⟩ := r2
  refine J_eq (st' := [.int 1]) rfl rfl rfl ?_
  refine J_if_ne 22 (by decide) dX8_hears_6 (fun c3 => ?_) (fun c3 => ?_)
  rotate_left
  · exact absurd c3 (by decide)
  refine J_iconst (v := 0) (by decide) dX8_hears_22 ?_
  exact J_ireturn rfl (by first | rfl | assumption | simp [kb_nar]) dX8_hears_23 (⟨rfl, _, _, rfl, hM1⟩) (by omega) (by omega)

set_option maxRecDepth 20000 in
set_option maxHeartbeats 1000000 in
theorem c_X8_busyWith_s {cy : Nat → ClassId} {S : Nat → Nat → Nat} {I : kI} {L : kL} {R : kRf} {m : Mu} {cd : Int32} {s c : Nat} (hM : MR m cd I L) {Ic : kI} {Lc : kL} {Rc : kRf} {LPc : List Nat} {rc : Nat → Nat} {ln qu : List Nat} {lg B : Nat} (hR : Rel m Ic Lc Rc LPc rc ln qu lg) (hI : Inv m B) (hB : B + 90000 < 2 ^ 30) (hs : s < mS m) (hm : mHold m (nI s) = some c) : Con yX8_busyWith cX8_busyWith 2 (some .int) 7 0 0 cy [.ref (ka S 30 0), .int (nI s)] (wm cy S I L R) (fun r w' => r = some (.int (nI c)) ∧ MX cy S R m 0 w') kF := by
  have hn : mN m := ⟨hR.1.1, hR.2.1.1⟩
  have h10 := hI.1
  have h150 := hI.2.2.1
  have hg0 := inv_g hI (by omega)
  have hkk := hI.2.2.2.1
  have hh := hI.2.2.2.2.1
  have hc := ((mHold_iff hh (by omega)).mp hm).1
  refine Con_of (by decide +kernel) (Nat.le_of_ble_eq_true rfl) ?_
  refine J_eq (lv' := [(0, .ref (ka S 30 0)), (1, .int (nI s))]) rfl rfl rfl ?_
  refine J_aload_n 0 rfl dX8_busyWith_0 ?_
  refine J_aload_n 0 rfl dX8_busyWith_1 ?_
  refine J_iload_n 1 rfl dX8_busyWith_2 ?_
  refine cv_8_120 (cells' := 0) (slots' := 0) dX8_busyWith_3 (c_X8_isNone hM hn) n30 ⟨by decide, by decide⟩ rfl rfl (by decide) (by decide) (Nat.le_of_ble_eq_true rfl) (fun _ _ r1 => ?_) (fun _ _ h => h.elim)
  obtain ⟨rfl, rfl⟩ := r1
  refine J_eq (st' := [.int (kb (!(decide (0 ≤ (nI s)) && decide ((nI s) ≤ nI (mS m) - 1)))), .ref (ka S 30 0)]) rfl rfl rfl ?_
  refine J_topeq 0 (by rw [none_f (n := mS m) (by omega) (by assumption)]; rfl) ?_
  refine J_if_eq 13 (by decide) dX8_busyWith_6 (fun c2 => ?_) (fun c2 => ?_)
  rotate_left
  · exact absurd (by decide) c2
  refine J_aload_n 0 rfl dX8_busyWith_13 ?_
  refine J_iload_n 1 rfl dX8_busyWith_14 ?_
  refine cv_8_123 (cells' := 0) (slots' := 0) dX8_busyWith_15 (c_X8_busy (s := s) hM hn h150) n30 ⟨by decide, by decide⟩ rfl rfl (by decide) (by decide) (Nat.le_of_ble_eq_true rfl) (fun _ _ r3 => ?_) (fun _ _ h => h.elim)
  obtain ⟨rfl, rfl⟩ := r3
  refine J_eq (st' := [.int (oI (mHold m (nI s))), .ref (ka S 30 0)]) rfl rfl rfl ?_
  refine J_topeq (nI c) (by rw [hm]; rfl) ?_
  refine J_if_ge 25 (by decide) dX8_busyWith_18 (fun c4 => ?_) (fun c4 => ?_)
  rotate_left
  · exfalso
    have Nc4 : ¬ (0 ≤ c) := fun q => c4 ((nI_leI (a := 0) (b := c) (by omega) (by omega)).mpr q)
    omega
  have Nc4 : 0 ≤ c := (nI_leI (a := 0) (b := c) (by omega) (by omega)).mp c4
  refine J_iconst (v := 0) (by decide) dX8_busyWith_25 ?_
  refine cv_8_113 (cells' := 0) (slots' := 0) dX8_busyWith_26 (c_X8_failsE (x := 0)) n30 ⟨by decide, by decide⟩ rfl rfl (by decide) (by decide) (Nat.le_of_ble_eq_true rfl) (fun _ _ r5 => ?_) (fun _ _ h => h.elim)
  obtain ⟨rfl, rfl⟩ := r5
  refine J_eq (st' := [.int (kb (decide (0 < (0 : Int32))))]) rfl rfl rfl ?_
  have hM6 := MR_cd hM (v := 0)
  refine J_topeq 0 (by decide) ?_
  refine J_if_eq 36 (by decide) dX8_busyWith_29 (fun c7 => ?_) (fun c7 => ?_)
  rotate_left
  · exact absurd (by decide) c7
  refine J_aload_n 0 rfl dX8_busyWith_36 ?_
  refine J_iload_n 1 rfl dX8_busyWith_37 ?_
  refine cv_8_123 (cells' := 0) (slots' := 0) dX8_busyWith_38 (c_X8_busy (s := s) hM6 hn h150) n30 ⟨by decide, by decide⟩ rfl rfl (by decide) (by decide) (Nat.le_of_ble_eq_true rfl) (fun _ _ r8 => ?_) (fun _ _ h => h.elim)
  obtain ⟨rfl, rfl⟩ := r8
  refine J_eq (st' := [.int (oI (mHold m (nI s)))]) rfl rfl rfl ?_
  refine J_topeq (nI c) (by rw [hm]; rfl) ?_
  exact J_ireturn rfl (by first | rfl | assumption | simp [kb_nar]) dX8_busyWith_41 (⟨rfl, _, _, rfl, hM6⟩) (by omega) (by omega)

set_option maxRecDepth 20000 in
set_option maxHeartbeats 1000000 in
theorem c_X8_busyWith_n {cy : Nat → ClassId} {S : Nat → Nat → Nat} {I : kI} {L : kL} {R : kRf} {m : Mu} {cd : Int32} {s : Nat} (hM : MR m cd I L) {Ic : kI} {Lc : kL} {Rc : kRf} {LPc : List Nat} {rc : Nat → Nat} {ln qu : List Nat} {lg B : Nat} (hR : Rel m Ic Lc Rc LPc rc ln qu lg) (hI : Inv m B) (hB : B + 90000 < 2 ^ 30) (hs : s < mS m) (hm : mHold m (nI s) = none) : Con yX8_busyWith cX8_busyWith 2 (some .int) 7 0 0 cy [.ref (ka S 30 0), .int (nI s)] (wm cy S I L R) (fun r w' => r = some (.int 0) ∧ MX cy S R m 2 w') kF := by
  have hn : mN m := ⟨hR.1.1, hR.2.1.1⟩
  have h10 := hI.1
  have h150 := hI.2.2.1
  have hg0 := inv_g hI (by omega)
  have hkk := hI.2.2.2.1
  have hh := hI.2.2.2.2.1
  refine Con_of (by decide +kernel) (Nat.le_of_ble_eq_true rfl) ?_
  refine J_eq (lv' := [(0, .ref (ka S 30 0)), (1, .int (nI s))]) rfl rfl rfl ?_
  refine J_aload_n 0 rfl dX8_busyWith_0 ?_
  refine J_aload_n 0 rfl dX8_busyWith_1 ?_
  refine J_iload_n 1 rfl dX8_busyWith_2 ?_
  refine cv_8_120 (cells' := 0) (slots' := 0) dX8_busyWith_3 (c_X8_isNone hM hn) n30 ⟨by decide, by decide⟩ rfl rfl (by decide) (by decide) (Nat.le_of_ble_eq_true rfl) (fun _ _ r1 => ?_) (fun _ _ h => h.elim)
  obtain ⟨rfl, rfl⟩ := r1
  refine J_eq (st' := [.int (kb (!(decide (0 ≤ (nI s)) && decide ((nI s) ≤ nI (mS m) - 1)))), .ref (ka S 30 0)]) rfl rfl rfl ?_
  refine J_topeq 0 (by rw [none_f (n := mS m) (by omega) (by assumption)]; rfl) ?_
  refine J_if_eq 13 (by decide) dX8_busyWith_6 (fun c2 => ?_) (fun c2 => ?_)
  rotate_left
  · exact absurd (by decide) c2
  refine J_aload_n 0 rfl dX8_busyWith_13 ?_
  refine J_iload_n 1 rfl dX8_busyWith_14 ?_
  refine cv_8_123 (cells' := 0) (slots' := 0) dX8_busyWith_15 (c_X8_busy (s := s) hM hn h150) n30 ⟨by decide, by decide⟩ rfl rfl (by decide) (by decide) (Nat.le_of_ble_eq_true rfl) (fun _ _ r3 => ?_) (fun _ _ h => h.elim)
  obtain ⟨rfl, rfl⟩ := r3
  refine J_eq (st' := [.int (oI (mHold m (nI s))), .ref (ka S 30 0)]) rfl rfl rfl ?_
  refine J_topeq (-1) (by rw [hm]; rfl) ?_
  refine J_if_ge 25 (by decide) dX8_busyWith_18 (fun c4 => ?_) (fun c4 => ?_)
  · exact absurd c4 (by decide)
  refine J_iconst (v := 2) (by decide) dX8_busyWith_21 ?_
  refine J_goto 26 (by decide) dX8_busyWith_22 ?_
  refine cv_8_113 (cells' := 0) (slots' := 0) dX8_busyWith_26 (c_X8_failsE (x := 2)) n30 ⟨by decide, by decide⟩ rfl rfl (by decide) (by decide) (Nat.le_of_ble_eq_true rfl) (fun _ _ r5 => ?_) (fun _ _ h => h.elim)
  obtain ⟨rfl, rfl⟩ := r5
  refine J_eq (st' := [.int (kb (decide (0 < (2 : Int32))))]) rfl rfl rfl ?_
  have hM6 := MR_cd hM (v := 2)
  refine J_topeq 1 (by decide) ?_
  refine J_if_eq 36 (by decide) dX8_busyWith_29 (fun c7 => ?_) (fun c7 => ?_)
  · exact absurd c7 (by decide)
  refine J_iconst (v := 0) (by decide) dX8_busyWith_32 ?_
  refine J_goto 41 (by decide) dX8_busyWith_33 ?_
  exact J_ireturn rfl (by first | rfl | assumption | simp [kb_nar]) dX8_busyWith_41 (⟨rfl, _, _, rfl, hM6⟩) (by omega) (by omega)

set_option maxRecDepth 20000 in
set_option maxHeartbeats 1000000 in
theorem c_X8_busyWith_x {cy : Nat → ClassId} {S : Nat → Nat → Nat} {I : kI} {L : kL} {R : kRf} {m : Mu} {cd : Int32} {x : Int32} (hM : MR m cd I L) {Ic : kI} {Lc : kL} {Rc : kRf} {LPc : List Nat} {rc : Nat → Nat} {ln qu : List Nat} {lg B : Nat} (hR : Rel m Ic Lc Rc LPc rc ln qu lg) (hI : Inv m B) (hB : B + 90000 < 2 ^ 30) (hx : ∀ s, s < mS m → x ≠ nI s) : Con yX8_busyWith cX8_busyWith 2 (some .int) 7 0 0 cy [.ref (ka S 30 0), .int x] (wm cy S I L R) (fun r w' => r = some (.int 0) ∧ MX cy S R m 1 w') kF := by
  have hn : mN m := ⟨hR.1.1, hR.2.1.1⟩
  have h10 := hI.1
  have h150 := hI.2.2.1
  have hg0 := inv_g hI (by omega)
  have hkk := hI.2.2.2.1
  have hh := hI.2.2.2.2.1
  refine Con_of (by decide +kernel) (Nat.le_of_ble_eq_true rfl) ?_
  refine J_eq (lv' := [(0, .ref (ka S 30 0)), (1, .int x)]) rfl rfl rfl ?_
  refine J_aload_n 0 rfl dX8_busyWith_0 ?_
  refine J_aload_n 0 rfl dX8_busyWith_1 ?_
  refine J_iload_n 1 rfl dX8_busyWith_2 ?_
  refine cv_8_120 (cells' := 0) (slots' := 0) dX8_busyWith_3 (c_X8_isNone hM hn) n30 ⟨by decide, by decide⟩ rfl rfl (by decide) (by decide) (Nat.le_of_ble_eq_true rfl) (fun _ _ r1 => ?_) (fun _ _ h => h.elim)
  obtain ⟨rfl, rfl⟩ := r1
  refine J_eq (st' := [.int (kb (!(decide (0 ≤ x) && decide (x ≤ nI (mS m) - 1)))), .ref (ka S 30 0)]) rfl rfl rfl ?_
  refine J_topeq 1 (by rw [none_t (n := mS m) (by omega) (by assumption)]; rfl) ?_
  refine J_if_eq 13 (by decide) dX8_busyWith_6 (fun c2 => ?_) (fun c2 => ?_)
  · exact absurd c2 (by decide)
  refine J_iconst (v := 1) (by decide) dX8_busyWith_9 ?_
  refine J_goto 26 (by decide) dX8_busyWith_10 ?_
  refine cv_8_113 (cells' := 0) (slots' := 0) dX8_busyWith_26 (c_X8_failsE (x := 1)) n30 ⟨by decide, by decide⟩ rfl rfl (by decide) (by decide) (Nat.le_of_ble_eq_true rfl) (fun _ _ r3 => ?_) (fun _ _ h => h.elim)
  obtain ⟨rfl, rfl⟩ := r3
  refine J_eq (st' := [.int (kb (decide (0 < (1 : Int32))))]) rfl rfl rfl ?_
  have hM4 := MR_cd hM (v := 1)
  refine J_topeq 1 (by decide) ?_
  refine J_if_eq 36 (by decide) dX8_busyWith_29 (fun c5 => ?_) (fun c5 => ?_)
  · exact absurd c5 (by decide)
  refine J_iconst (v := 0) (by decide) dX8_busyWith_32 ?_
  refine J_goto 41 (by decide) dX8_busyWith_33 ?_
  exact J_ireturn rfl (by first | rfl | assumption | simp [kb_nar]) dX8_busyWith_41 (⟨rfl, _, _, rfl, hM4⟩) (by omega) (by omega)

set_option maxRecDepth 20000 in
set_option maxHeartbeats 1000000 in
theorem c_X8_relayed_s {cy : Nat → ClassId} {S : Nat → Nat → Nat} {I : kI} {L : kL} {R : kRf} {m : Mu} {cd : Int32} {s t : Nat} (hM : MR m cd I L) {Ic : kI} {Lc : kL} {Rc : kRf} {LPc : List Nat} {rc : Nat → Nat} {ln qu : List Nat} {lg B : Nat} (hR : Rel m Ic Lc Rc LPc rc ln qu lg) (hI : Inv m B) (hB : B + 90000 < 2 ^ 30) (hs : s < mS m) (ht : t < mS m) (hne : s ≠ t) (hw : (mWay m (nI s) (nI t)) ≠ []) : Con yX8_relayed cX8_relayed 3 (some .int) 5 0 0 cy [.ref (ka S 30 0), .int (nI s), .int (nI t)] (wm cy S I L R) (fun r w' => r = some (.int (nI ((mWay m (nI s) (nI t)).length - 2))) ∧ MX cy S R m 0 w') kF := by
  have hn : mN m := ⟨hR.1.1, hR.2.1.1⟩
  have h10 := hI.1
  have h150 := hI.2.2.1
  have hg0 := inv_g hI (by omega)
  have hkk := hI.2.2.2.1
  have hh := hI.2.2.2.2.1
  have hl10 : (mWay m (nI s) (nI t)).length ≤ 10 := by
    have := (gWay_le (adj := mAdj m) h10 ht hs).1
    unfold mWay; rw [nI_toNat (by omega), nI_toNat (by omega)]; exact this
  have hl2 : 2 ≤ (mWay m (nI s) (nI t)).length := by
    have e : (mWay m (nI s) (nI t)) = gWay (mAdj m) (mS m) t s := by unfold mWay; rw [nI_toNat (by omega), nI_toNat (by omega)]
    by_cases h9 : gD (mAdj m) (mS m) t s < 99
    · rw [e, (gWay_len (adj := mAdj m) h10 ht hs h9).1]
      rcases Nat.eq_zero_or_pos (gD (mAdj m) (mS m) t s) with q | q
      · exact absurd (gD_zero q) hne
      · omega
    · exact absurd (by rw [e]; exact if_neg h9) hw
  refine Con_of (by decide +kernel) (Nat.le_of_ble_eq_true rfl) ?_
  refine J_eq (lv' := [(0, .ref (ka S 30 0)), (1, .int (nI s)), (2, .int (nI t))]) rfl rfl rfl ?_
  refine J_aload_n 0 rfl dX8_relayed_0 ?_
  refine J_iload_n 1 rfl dX8_relayed_1 ?_
  refine J_iload_n 2 rfl dX8_relayed_2 ?_
  refine cv_8_132 (cells' := 0) (slots' := 0) dX8_relayed_3 (c_X8_areNoTwo_s hM hR hI hB hs ht hne) n30 ⟨by decide, by decide⟩ rfl rfl (by decide) (by decide) (Nat.le_of_ble_eq_true rfl) (fun _ _ r2 => ?_) (fun _ _ h => h.elim)
  obtain ⟨rfl, I1, L1, rfl, hM1⟩ := r2
  refine J_eq (st' := [.int 0]) rfl rfl rfl ?_
  refine J_if_ne 30 (by decide) dX8_relayed_6 (fun c3 => ?_) (fun c3 => ?_)
  · exact absurd (by decide) c3
  refine J_aload_n 0 rfl dX8_relayed_9 ?_
  refine J_aload_n 0 rfl dX8_relayed_10 ?_
  refine J_iload_n 1 rfl dX8_relayed_11 ?_
  refine J_iload_n 2 rfl dX8_relayed_12 ?_
  refine cv_8_138 (cells' := 0) (slots' := 0) dX8_relayed_13 (c_X8_finds hM1 hn h10 hs ht) n30 ⟨by decide, by decide⟩ rfl rfl (by decide) (by decide) (Nat.le_of_ble_eq_true rfl) (fun _ _ r5 => ?_) (fun _ _ h => h.elim)
  obtain ⟨rfl, I4, L4, rfl, hM4, hww⟩ := r5
  refine J_eq (st' := [.int (kb (decide ((mWay m (nI s) (nI t)) ≠ []))), .ref (ka S 30 0)]) rfl rfl rfl ?_
  refine J_topeq 1 (by rw [decide_eq_true hw]; rfl) ?_
  refine J_if_eq 23 (by decide) dX8_relayed_16 (fun c6 => ?_) (fun c6 => ?_)
  · exact absurd c6 (by decide)
  refine J_iconst (v := 0) (by decide) dX8_relayed_19 ?_
  refine J_goto 24 (by decide) dX8_relayed_20 ?_
  refine cv_8_113 (cells' := 0) (slots' := 0) dX8_relayed_24 (c_X8_failsE (x := 0)) n30 ⟨by decide, by decide⟩ rfl rfl (by decide) (by decide) (Nat.le_of_ble_eq_true rfl) (fun _ _ r7 => ?_) (fun _ _ h => h.elim)
  obtain ⟨rfl, rfl⟩ := r7
  refine J_eq (st' := [.int (kb (decide (0 < (0 : Int32))))]) rfl rfl rfl ?_
  have hM8 := MR_cd hM4 (v := 0)
  refine J_topeq 0 (by decide) ?_
  refine J_if_eq 34 (by decide) dX8_relayed_27 (fun c9 => ?_) (fun c9 => ?_)
  rotate_left
  · exact absurd (by decide) c9
  refine J_aload_n 0 rfl dX8_relayed_34 ?_
  refine gf_8_106 n30 dX8_relayed_35 ?_
  refine J_topeq (I4 30 0 9) (by simp [ku]) ?_
  refine J_topeq (nI (mWay m (nI s) (nI t)).length) (by exact (hww hw).1) ?_
  refine J_iconst (v := 2) (by decide) dX8_relayed_38 ?_
  refine J_isub dX8_relayed_39 ?_
  refine J_topeq (nI ((mWay m (nI s) (nI t)).length - 2)) (by exact nI_subL (a := (mWay m (nI s) (nI t)).length) (n := 2) (by omega)) ?_
  exact J_ireturn rfl (by first | rfl | assumption | simp [kb_nar]) dX8_relayed_40 (⟨rfl, _, _, rfl, hM8⟩) (by omega) (by omega)

set_option maxRecDepth 20000 in
set_option maxHeartbeats 1000000 in
theorem c_X8_relayed_n {cy : Nat → ClassId} {S : Nat → Nat → Nat} {I : kI} {L : kL} {R : kRf} {m : Mu} {cd : Int32} {s t : Nat} (hM : MR m cd I L) {Ic : kI} {Lc : kL} {Rc : kRf} {LPc : List Nat} {rc : Nat → Nat} {ln qu : List Nat} {lg B : Nat} (hR : Rel m Ic Lc Rc LPc rc ln qu lg) (hI : Inv m B) (hB : B + 90000 < 2 ^ 30) (hs : s < mS m) (ht : t < mS m) (hne : s ≠ t) (hw : (mWay m (nI s) (nI t)) = []) : Con yX8_relayed cX8_relayed 3 (some .int) 5 0 0 cy [.ref (ka S 30 0), .int (nI s), .int (nI t)] (wm cy S I L R) (fun r w' => r = some (.int 0) ∧ MX cy S R m 3 w') kF := by
  have hn : mN m := ⟨hR.1.1, hR.2.1.1⟩
  have h10 := hI.1
  have h150 := hI.2.2.1
  have hg0 := inv_g hI (by omega)
  have hkk := hI.2.2.2.1
  have hh := hI.2.2.2.2.1
  refine Con_of (by decide +kernel) (Nat.le_of_ble_eq_true rfl) ?_
  refine J_eq (lv' := [(0, .ref (ka S 30 0)), (1, .int (nI s)), (2, .int (nI t))]) rfl rfl rfl ?_
  refine J_aload_n 0 rfl dX8_relayed_0 ?_
  refine J_iload_n 1 rfl dX8_relayed_1 ?_
  refine J_iload_n 2 rfl dX8_relayed_2 ?_
  refine cv_8_132 (cells' := 0) (slots' := 0) dX8_relayed_3 (c_X8_areNoTwo_s hM hR hI hB hs ht hne) n30 ⟨by decide, by decide⟩ rfl rfl (by decide) (by decide) (Nat.le_of_ble_eq_true rfl) (fun _ _ r2 => ?_) (fun _ _ h => h.elim)
  obtain ⟨rfl, I1, L1, rfl, hM1⟩ := r2
  refine J_eq (st' := [.int 0]) rfl rfl rfl ?_
  refine J_if_ne 30 (by decide) dX8_relayed_6 (fun c3 => ?_) (fun c3 => ?_)
  · exact absurd (by decide) c3
  refine J_aload_n 0 rfl dX8_relayed_9 ?_
  refine J_aload_n 0 rfl dX8_relayed_10 ?_
  refine J_iload_n 1 rfl dX8_relayed_11 ?_
  refine J_iload_n 2 rfl dX8_relayed_12 ?_
  refine cv_8_138 (cells' := 0) (slots' := 0) dX8_relayed_13 (c_X8_finds hM1 hn h10 hs ht) n30 ⟨by decide, by decide⟩ rfl rfl (by decide) (by decide) (Nat.le_of_ble_eq_true rfl) (fun _ _ r5 => ?_) (fun _ _ h => h.elim)
  obtain ⟨rfl, I4, L4, rfl, hM4, hww⟩ := r5
  refine J_eq (st' := [.int (kb (decide ((mWay m (nI s) (nI t)) ≠ []))), .ref (ka S 30 0)]) rfl rfl rfl ?_
  refine J_topeq 0 (by rw [hw]; rfl) ?_
  refine J_if_eq 23 (by decide) dX8_relayed_16 (fun c6 => ?_) (fun c6 => ?_)
  rotate_left
  · exact absurd (by decide) c6
  refine J_iconst (v := 3) (by decide) dX8_relayed_23 ?_
  refine cv_8_113 (cells' := 0) (slots' := 0) dX8_relayed_24 (c_X8_failsE (x := 3)) n30 ⟨by decide, by decide⟩ rfl rfl (by decide) (by decide) (Nat.le_of_ble_eq_true rfl) (fun _ _ r7 => ?_) (fun _ _ h => h.elim)
  obtain ⟨rfl, rfl⟩ := r7
  refine J_eq (st' := [.int (kb (decide (0 < (3 : Int32))))]) rfl rfl rfl ?_
  have hM8 := MR_cd hM4 (v := 3)
  refine J_topeq 1 (by decide) ?_
  refine J_if_eq 34 (by decide) dX8_relayed_27 (fun c9 => ?_) (fun c9 => ?_)
  · exact absurd c9 (by decide)
  refine J_iconst (v := 0) (by decide) dX8_relayed_30 ?_
  refine J_goto 40 (by decide) dX8_relayed_31 ?_
  exact J_ireturn rfl (by first | rfl | assumption | simp [kb_nar]) dX8_relayed_40 (⟨rfl, _, _, rfl, hM8⟩) (by omega) (by omega)

set_option maxRecDepth 20000 in
set_option maxHeartbeats 1000000 in
theorem c_X8_relayed_e {cy : Nat → ClassId} {S : Nat → Nat → Nat} {I : kI} {L : kL} {R : kRf} {m : Mu} {cd : Int32} {s : Nat}  (hM : MR m cd I L) {Ic : kI} {Lc : kL} {Rc : kRf} {LPc : List Nat} {rc : Nat → Nat} {ln qu : List Nat} {lg B : Nat} (hR : Rel m Ic Lc Rc LPc rc ln qu lg) (hI : Inv m B) (hB : B + 90000 < 2 ^ 30) (hs : s < mS m) : Con yX8_relayed cX8_relayed 3 (some .int) 5 0 0 cy [.ref (ka S 30 0), .int (nI s), .int (nI s)] (wm cy S I L R) (fun r w' => r = some (.int 0) ∧ MX cy S R m 2 w') kF := by
  have hn : mN m := ⟨hR.1.1, hR.2.1.1⟩
  have h10 := hI.1
  have h150 := hI.2.2.1
  have hg0 := inv_g hI (by omega)
  have hkk := hI.2.2.2.1
  have hh := hI.2.2.2.2.1
  refine Con_of (by decide +kernel) (Nat.le_of_ble_eq_true rfl) ?_
  refine J_eq (lv' := [(0, .ref (ka S 30 0)), (1, .int (nI s)), (2, .int (nI s))]) rfl rfl rfl ?_
  refine J_aload_n 0 rfl dX8_relayed_0 ?_
  refine J_iload_n 1 rfl dX8_relayed_1 ?_
  refine J_iload_n 2 rfl dX8_relayed_2 ?_
  refine cv_8_132 (cells' := 0) (slots' := 0) dX8_relayed_3 (c_X8_areNoTwo_e hM hR hI hB hs) n30 ⟨by decide, by decide⟩ rfl rfl (by decide) (by decide) (Nat.le_of_ble_eq_true rfl) (fun _ _ r2 => ?_) (fun _ _ h => h.elim)
  obtain ⟨rfl, I1, L1, rfl, hM1⟩ := r2
  refine J_eq (st' := [.int 1]) rfl rfl rfl ?_
  refine J_if_ne 30 (by decide) dX8_relayed_6 (fun c3 => ?_) (fun c3 => ?_)
  rotate_left
  · exact absurd c3 (by decide)
  refine J_iconst (v := 0) (by decide) dX8_relayed_30 ?_
  refine J_goto 40 (by decide) dX8_relayed_31 ?_
  exact J_ireturn rfl (by first | rfl | assumption | simp [kb_nar]) dX8_relayed_40 (⟨rfl, _, _, rfl, hM1⟩) (by omega) (by omega)

set_option maxRecDepth 20000 in
set_option maxHeartbeats 1000000 in
theorem c_X8_relayed_x {cy : Nat → ClassId} {S : Nat → Nat → Nat} {I : kI} {L : kL} {R : kRf} {m : Mu} {cd : Int32} {x y : Int32}  (hM : MR m cd I L) {Ic : kI} {Lc : kL} {Rc : kRf} {LPc : List Nat} {rc : Nat → Nat} {ln qu : List Nat} {lg B : Nat} (hR : Rel m Ic Lc Rc LPc rc ln qu lg) (hI : Inv m B) (hB : B + 90000 < 2 ^ 30) (hx : ∀ s, s < mS m → x ≠ nI s) : Con yX8_relayed cX8_relayed 3 (some .int) 5 0 0 cy [.ref (ka S 30 0), .int x, .int y] (wm cy S I L R) (fun r w' => r = some (.int 0) ∧ MX cy S R m 1 w') kF := by
  have hn : mN m := ⟨hR.1.1, hR.2.1.1⟩
  have h10 := hI.1
  have h150 := hI.2.2.1
  have hg0 := inv_g hI (by omega)
  have hkk := hI.2.2.2.1
  have hh := hI.2.2.2.2.1
  refine Con_of (by decide +kernel) (Nat.le_of_ble_eq_true rfl) ?_
  refine J_eq (lv' := [(0, .ref (ka S 30 0)), (1, .int x), (2, .int y)]) rfl rfl rfl ?_
  refine J_aload_n 0 rfl dX8_relayed_0 ?_
  refine J_iload_n 1 rfl dX8_relayed_1 ?_
  refine J_iload_n 2 rfl dX8_relayed_2 ?_
  refine cv_8_132 (cells' := 0) (slots' := 0) dX8_relayed_3 (c_X8_areNoTwo_x hM hR hI hB hx) n30 ⟨by decide, by decide⟩ rfl rfl (by decide) (by decide) (Nat.le_of_ble_eq_true rfl) (fun _ _ r2 => ?_) (fun _ _ h => h.elim)
  obtain ⟨rfl, I1, L1, rfl, hM1⟩ := r2
  refine J_eq (st' := [.int 1]) rfl rfl rfl ?_
  refine J_if_ne 30 (by decide) dX8_relayed_6 (fun c3 => ?_) (fun c3 => ?_)
  rotate_left
  · exact absurd c3 (by decide)
  refine J_iconst (v := 0) (by decide) dX8_relayed_30 ?_
  refine J_goto 40 (by decide) dX8_relayed_31 ?_
  exact J_ireturn rfl (by first | rfl | assumption | simp [kb_nar]) dX8_relayed_40 (⟨rfl, _, _, rfl, hM1⟩) (by omega) (by omega)

set_option maxRecDepth 20000 in
set_option maxHeartbeats 1000000 in
theorem c_X8_relayed_y {cy : Nat → ClassId} {S : Nat → Nat → Nat} {I : kI} {L : kL} {R : kRf} {m : Mu} {cd : Int32} {s : Nat} {x : Int32}  (hM : MR m cd I L) {Ic : kI} {Lc : kL} {Rc : kRf} {LPc : List Nat} {rc : Nat → Nat} {ln qu : List Nat} {lg B : Nat} (hR : Rel m Ic Lc Rc LPc rc ln qu lg) (hI : Inv m B) (hB : B + 90000 < 2 ^ 30) (hs : s < mS m) (hx : ∀ s, s < mS m → x ≠ nI s) : Con yX8_relayed cX8_relayed 3 (some .int) 5 0 0 cy [.ref (ka S 30 0), .int (nI s), .int x] (wm cy S I L R) (fun r w' => r = some (.int 0) ∧ MX cy S R m 1 w') kF := by
  have hn : mN m := ⟨hR.1.1, hR.2.1.1⟩
  have h10 := hI.1
  have h150 := hI.2.2.1
  have hg0 := inv_g hI (by omega)
  have hkk := hI.2.2.2.1
  have hh := hI.2.2.2.2.1
  refine Con_of (by decide +kernel) (Nat.le_of_ble_eq_true rfl) ?_
  refine J_eq (lv' := [(0, .ref (ka S 30 0)), (1, .int (nI s)), (2, .int x)]) rfl rfl rfl ?_
  refine J_aload_n 0 rfl dX8_relayed_0 ?_
  refine J_iload_n 1 rfl dX8_relayed_1 ?_
  refine J_iload_n 2 rfl dX8_relayed_2 ?_
  refine cv_8_132 (cells' := 0) (slots' := 0) dX8_relayed_3 (c_X8_areNoTwo_y hM hR hI hB hs hx) n30 ⟨by decide, by decide⟩ rfl rfl (by decide) (by decide) (Nat.le_of_ble_eq_true rfl) (fun _ _ r2 => ?_) (fun _ _ h => h.elim)
  obtain ⟨rfl, I1, L1, rfl, hM1⟩ := r2
  refine J_eq (st' := [.int 1]) rfl rfl rfl ?_
  refine J_if_ne 30 (by decide) dX8_relayed_6 (fun c3 => ?_) (fun c3 => ?_)
  rotate_left
  · exact absurd c3 (by decide)
  refine J_iconst (v := 0) (by decide) dX8_relayed_30 ?_
  refine J_goto 40 (by decide) dX8_relayed_31 ?_
  exact J_ireturn rfl (by first | rfl | assumption | simp [kb_nar]) dX8_relayed_40 (⟨rfl, _, _, rfl, hM1⟩) (by omega) (by omega)

set_option maxRecDepth 20000 in
set_option maxHeartbeats 1000000 in
theorem c_X8_relays_s {cy : Nat → ClassId} {S : Nat → Nat → Nat} {I : kI} {L : kL} {R : kRf} {m : Mu} {cd : Int32} {s t : Nat} (hM : MR m cd I L) {Ic : kI} {Lc : kL} {Rc : kRf} {LPc : List Nat} {rc : Nat → Nat} {ln qu : List Nat} {lg B : Nat} (hR : Rel m Ic Lc Rc LPc rc ln qu lg) (hI : Inv m B) (hB : B + 90000 < 2 ^ 30) (hs : s < mS m) (ht : t < mS m) (hne : s ≠ t) (hw : (mWay m (nI s) (nI t)) ≠ []) : Con yX8_relays cX8_relays 3 (some .int) 7 0 0 cy [.ref (ka S 30 0), .int (nI s), .int (nI t)] (wm cy S I L R) (fun r w' => r = some (.int (nI ((mWay m (nI s) (nI t)).length - 2))) ∧ MX cy S R m 0 w') kF := by
  have hn : mN m := ⟨hR.1.1, hR.2.1.1⟩
  have h10 := hI.1
  have h150 := hI.2.2.1
  have hg0 := inv_g hI (by omega)
  have hkk := hI.2.2.2.1
  have hh := hI.2.2.2.2.1
  refine Con_of (by decide +kernel) (Nat.le_of_ble_eq_true rfl) ?_
  refine J_eq (lv' := [(0, .ref (ka S 30 0)), (1, .int (nI s)), (2, .int (nI t))]) rfl rfl rfl ?_
  refine J_aload_n 0 rfl dX8_relays_0 ?_
  refine J_iload_n 1 rfl dX8_relays_1 ?_
  refine J_iload_n 2 rfl dX8_relays_2 ?_
  refine cv_8_141 (cells' := 0) (slots' := 0) dX8_relays_3 (c_X8_relayed_s hM hR hI hB hs ht hne hw) n30 ⟨by decide, by decide⟩ rfl rfl (by decide) (by decide) (Nat.le_of_ble_eq_true rfl) (fun _ _ r2 => ?_) (fun _ _ h => h.elim)
  obtain ⟨rfl, I1, L1, rfl, hM1⟩ := r2
  refine J_eq (st' := [.int (nI ((mWay m (nI s) (nI t)).length - 2))]) rfl rfl rfl ?_
  exact J_ireturn rfl (by first | rfl | assumption | simp [kb_nar]) dX8_relays_6 (⟨rfl, _, _, rfl, hM1⟩) (by omega) (by omega)

set_option maxRecDepth 20000 in
set_option maxHeartbeats 1000000 in
theorem c_X8_relays_n {cy : Nat → ClassId} {S : Nat → Nat → Nat} {I : kI} {L : kL} {R : kRf} {m : Mu} {cd : Int32} {s t : Nat} (hM : MR m cd I L) {Ic : kI} {Lc : kL} {Rc : kRf} {LPc : List Nat} {rc : Nat → Nat} {ln qu : List Nat} {lg B : Nat} (hR : Rel m Ic Lc Rc LPc rc ln qu lg) (hI : Inv m B) (hB : B + 90000 < 2 ^ 30) (hs : s < mS m) (ht : t < mS m) (hne : s ≠ t) (hw : (mWay m (nI s) (nI t)) = []) : Con yX8_relays cX8_relays 3 (some .int) 7 0 0 cy [.ref (ka S 30 0), .int (nI s), .int (nI t)] (wm cy S I L R) (fun r w' => r = some (.int 0) ∧ MX cy S R m 3 w') kF := by
  have hn : mN m := ⟨hR.1.1, hR.2.1.1⟩
  have h10 := hI.1
  have h150 := hI.2.2.1
  have hg0 := inv_g hI (by omega)
  have hkk := hI.2.2.2.1
  have hh := hI.2.2.2.2.1
  refine Con_of (by decide +kernel) (Nat.le_of_ble_eq_true rfl) ?_
  refine J_eq (lv' := [(0, .ref (ka S 30 0)), (1, .int (nI s)), (2, .int (nI t))]) rfl rfl rfl ?_
  refine J_aload_n 0 rfl dX8_relays_0 ?_
  refine J_iload_n 1 rfl dX8_relays_1 ?_
  refine J_iload_n 2 rfl dX8_relays_2 ?_
  refine cv_8_141 (cells' := 0) (slots' := 0) dX8_relays_3 (c_X8_relayed_n hM hR hI hB hs ht hne hw) n30 ⟨by decide, by decide⟩ rfl rfl (by decide) (by decide) (Nat.le_of_ble_eq_true rfl) (fun _ _ r2 => ?_) (fun _ _ h => h.elim)
  obtain ⟨rfl, I1, L1, rfl, hM1⟩ := r2
  refine J_eq (st' := [.int 0]) rfl rfl rfl ?_
  exact J_ireturn rfl (by first | rfl | assumption | simp [kb_nar]) dX8_relays_6 (⟨rfl, _, _, rfl, hM1⟩) (by omega) (by omega)

set_option maxRecDepth 20000 in
set_option maxHeartbeats 1000000 in
theorem c_X8_relays_e {cy : Nat → ClassId} {S : Nat → Nat → Nat} {I : kI} {L : kL} {R : kRf} {m : Mu} {cd : Int32} {s : Nat} (hM : MR m cd I L) {Ic : kI} {Lc : kL} {Rc : kRf} {LPc : List Nat} {rc : Nat → Nat} {ln qu : List Nat} {lg B : Nat} (hR : Rel m Ic Lc Rc LPc rc ln qu lg) (hI : Inv m B) (hB : B + 90000 < 2 ^ 30) (hs : s < mS m) : Con yX8_relays cX8_relays 3 (some .int) 7 0 0 cy [.ref (ka S 30 0), .int (nI s), .int (nI s)] (wm cy S I L R) (fun r w' => r = some (.int 0) ∧ MX cy S R m 2 w') kF := by
  have hn : mN m := ⟨hR.1.1, hR.2.1.1⟩
  have h10 := hI.1
  have h150 := hI.2.2.1
  have hg0 := inv_g hI (by omega)
  have hkk := hI.2.2.2.1
  have hh := hI.2.2.2.2.1
  refine Con_of (by decide +kernel) (Nat.le_of_ble_eq_true rfl) ?_
  refine J_eq (lv' := [(0, .ref (ka S 30 0)), (1, .int (nI s)), (2, .int (nI s))]) rfl rfl rfl ?_
  refine J_aload_n 0 rfl dX8_relays_0 ?_
  refine J_iload_n 1 rfl dX8_relays_1 ?_
  refine J_iload_n 2 rfl dX8_relays_2 ?_
  refine cv_8_141 (cells' := 0) (slots' := 0) dX8_relays_3 (c_X8_relayed_e hM hR hI hB hs) n30 ⟨by decide, by decide⟩ rfl rfl (by decide) (by decide) (Nat.le_of_ble_eq_true rfl) (fun _ _ r2 => ?_) (fun _ _ h => h.elim)
  obtain ⟨rfl, I1, L1, rfl, hM1⟩ := r2
  refine J_eq (st' := [.int 0]) rfl rfl rfl ?_
  exact J_ireturn rfl (by first | rfl | assumption | simp [kb_nar]) dX8_relays_6 (⟨rfl, _, _, rfl, hM1⟩) (by omega) (by omega)

set_option maxRecDepth 20000 in
set_option maxHeartbeats 1000000 in
theorem c_X8_relays_x {cy : Nat → ClassId} {S : Nat → Nat → Nat} {I : kI} {L : kL} {R : kRf} {m : Mu} {cd : Int32} {x y : Int32} (hM : MR m cd I L) {Ic : kI} {Lc : kL} {Rc : kRf} {LPc : List Nat} {rc : Nat → Nat} {ln qu : List Nat} {lg B : Nat} (hR : Rel m Ic Lc Rc LPc rc ln qu lg) (hI : Inv m B) (hB : B + 90000 < 2 ^ 30) (hx : ∀ s, s < mS m → x ≠ nI s) : Con yX8_relays cX8_relays 3 (some .int) 7 0 0 cy [.ref (ka S 30 0), .int x, .int y] (wm cy S I L R) (fun r w' => r = some (.int 0) ∧ MX cy S R m 1 w') kF := by
  have hn : mN m := ⟨hR.1.1, hR.2.1.1⟩
  have h10 := hI.1
  have h150 := hI.2.2.1
  have hg0 := inv_g hI (by omega)
  have hkk := hI.2.2.2.1
  have hh := hI.2.2.2.2.1
  refine Con_of (by decide +kernel) (Nat.le_of_ble_eq_true rfl) ?_
  refine J_eq (lv' := [(0, .ref (ka S 30 0)), (1, .int x), (2, .int y)]) rfl rfl rfl ?_
  refine J_aload_n 0 rfl dX8_relays_0 ?_
  refine J_iload_n 1 rfl dX8_relays_1 ?_
  refine J_iload_n 2 rfl dX8_relays_2 ?_
  refine cv_8_141 (cells' := 0) (slots' := 0) dX8_relays_3 (c_X8_relayed_x hM hR hI hB hx) n30 ⟨by decide, by decide⟩ rfl rfl (by decide) (by decide) (Nat.le_of_ble_eq_true rfl) (fun _ _ r2 => ?_) (fun _ _ h => h.elim)
  obtain ⟨rfl, I1, L1, rfl, hM1⟩ := r2
  refine J_eq (st' := [.int 0]) rfl rfl rfl ?_
  exact J_ireturn rfl (by first | rfl | assumption | simp [kb_nar]) dX8_relays_6 (⟨rfl, _, _, rfl, hM1⟩) (by omega) (by omega)

set_option maxRecDepth 20000 in
set_option maxHeartbeats 1000000 in
theorem c_X8_relays_y {cy : Nat → ClassId} {S : Nat → Nat → Nat} {I : kI} {L : kL} {R : kRf} {m : Mu} {cd : Int32} {s : Nat} {x : Int32} (hM : MR m cd I L) {Ic : kI} {Lc : kL} {Rc : kRf} {LPc : List Nat} {rc : Nat → Nat} {ln qu : List Nat} {lg B : Nat} (hR : Rel m Ic Lc Rc LPc rc ln qu lg) (hI : Inv m B) (hB : B + 90000 < 2 ^ 30) (hs : s < mS m) (hx : ∀ s, s < mS m → x ≠ nI s) : Con yX8_relays cX8_relays 3 (some .int) 7 0 0 cy [.ref (ka S 30 0), .int (nI s), .int x] (wm cy S I L R) (fun r w' => r = some (.int 0) ∧ MX cy S R m 1 w') kF := by
  have hn : mN m := ⟨hR.1.1, hR.2.1.1⟩
  have h10 := hI.1
  have h150 := hI.2.2.1
  have hg0 := inv_g hI (by omega)
  have hkk := hI.2.2.2.1
  have hh := hI.2.2.2.2.1
  refine Con_of (by decide +kernel) (Nat.le_of_ble_eq_true rfl) ?_
  refine J_eq (lv' := [(0, .ref (ka S 30 0)), (1, .int (nI s)), (2, .int x)]) rfl rfl rfl ?_
  refine J_aload_n 0 rfl dX8_relays_0 ?_
  refine J_iload_n 1 rfl dX8_relays_1 ?_
  refine J_iload_n 2 rfl dX8_relays_2 ?_
  refine cv_8_141 (cells' := 0) (slots' := 0) dX8_relays_3 (c_X8_relayed_y hM hR hI hB hs hx) n30 ⟨by decide, by decide⟩ rfl rfl (by decide) (by decide) (Nat.le_of_ble_eq_true rfl) (fun _ _ r2 => ?_) (fun _ _ h => h.elim)
  obtain ⟨rfl, I1, L1, rfl, hM1⟩ := r2
  refine J_eq (st' := [.int 0]) rfl rfl rfl ?_
  exact J_ireturn rfl (by first | rfl | assumption | simp [kb_nar]) dX8_relays_6 (⟨rfl, _, _, rfl, hM1⟩) (by omega) (by omega)

set_option maxRecDepth 20000 in
set_option maxHeartbeats 1000000 in
theorem c_X8_relaysByJoining_s {cy : Nat → ClassId} {S : Nat → Nat → Nat} {I : kI} {L : kL} {R : kRf} {m : Mu} {cd : Int32} {s t : Nat} (hM : MR m cd I L) {Ic : kI} {Lc : kL} {Rc : kRf} {LPc : List Nat} {rc : Nat → Nat} {ln qu : List Nat} {lg B : Nat} (hR : Rel m Ic Lc Rc LPc rc ln qu lg) (hI : Inv m B) (hB : B + 90000 < 2 ^ 30) (hs : s < mS m) (ht : t < mS m) (hne : s ≠ t) (hw : (mWay m (nI s) (nI t)) ≠ []) : Con yX8_relaysByJoining cX8_relaysByJoining 3 (some .int) 7 0 0 cy [.ref (ka S 30 0), .int (nI s), .int (nI t)] (wm cy S I L R) (fun r w' => r = some (.int (nI ((mWay m (nI s) (nI t)).length - 2))) ∧ MX cy S R m 0 w') kF := by
  have hn : mN m := ⟨hR.1.1, hR.2.1.1⟩
  have h10 := hI.1
  have h150 := hI.2.2.1
  have hg0 := inv_g hI (by omega)
  have hkk := hI.2.2.2.1
  have hh := hI.2.2.2.2.1
  refine Con_of (by decide +kernel) (Nat.le_of_ble_eq_true rfl) ?_
  refine J_eq (lv' := [(0, .ref (ka S 30 0)), (1, .int (nI s)), (2, .int (nI t))]) rfl rfl rfl ?_
  refine J_aload_n 0 rfl dX8_relaysByJoining_0 ?_
  refine J_iload_n 1 rfl dX8_relaysByJoining_1 ?_
  refine J_iload_n 2 rfl dX8_relaysByJoining_2 ?_
  refine cv_8_141 (cells' := 0) (slots' := 0) dX8_relaysByJoining_3 (c_X8_relayed_s hM hR hI hB hs ht hne hw) n30 ⟨by decide, by decide⟩ rfl rfl (by decide) (by decide) (Nat.le_of_ble_eq_true rfl) (fun _ _ r2 => ?_) (fun _ _ h => h.elim)
  obtain ⟨rfl, I1, L1, rfl, hM1⟩ := r2
  refine J_eq (st' := [.int (nI ((mWay m (nI s) (nI t)).length - 2))]) rfl rfl rfl ?_
  exact J_ireturn rfl (by first | rfl | assumption | simp [kb_nar]) dX8_relaysByJoining_6 (⟨rfl, _, _, rfl, hM1⟩) (by omega) (by omega)

set_option maxRecDepth 20000 in
set_option maxHeartbeats 1000000 in
theorem c_X8_relaysByJoining_n {cy : Nat → ClassId} {S : Nat → Nat → Nat} {I : kI} {L : kL} {R : kRf} {m : Mu} {cd : Int32} {s t : Nat} (hM : MR m cd I L) {Ic : kI} {Lc : kL} {Rc : kRf} {LPc : List Nat} {rc : Nat → Nat} {ln qu : List Nat} {lg B : Nat} (hR : Rel m Ic Lc Rc LPc rc ln qu lg) (hI : Inv m B) (hB : B + 90000 < 2 ^ 30) (hs : s < mS m) (ht : t < mS m) (hne : s ≠ t) (hw : (mWay m (nI s) (nI t)) = []) : Con yX8_relaysByJoining cX8_relaysByJoining 3 (some .int) 7 0 0 cy [.ref (ka S 30 0), .int (nI s), .int (nI t)] (wm cy S I L R) (fun r w' => r = some (.int 0) ∧ MX cy S R m 3 w') kF := by
  have hn : mN m := ⟨hR.1.1, hR.2.1.1⟩
  have h10 := hI.1
  have h150 := hI.2.2.1
  have hg0 := inv_g hI (by omega)
  have hkk := hI.2.2.2.1
  have hh := hI.2.2.2.2.1
  refine Con_of (by decide +kernel) (Nat.le_of_ble_eq_true rfl) ?_
  refine J_eq (lv' := [(0, .ref (ka S 30 0)), (1, .int (nI s)), (2, .int (nI t))]) rfl rfl rfl ?_
  refine J_aload_n 0 rfl dX8_relaysByJoining_0 ?_
  refine J_iload_n 1 rfl dX8_relaysByJoining_1 ?_
  refine J_iload_n 2 rfl dX8_relaysByJoining_2 ?_
  refine cv_8_141 (cells' := 0) (slots' := 0) dX8_relaysByJoining_3 (c_X8_relayed_n hM hR hI hB hs ht hne hw) n30 ⟨by decide, by decide⟩ rfl rfl (by decide) (by decide) (Nat.le_of_ble_eq_true rfl) (fun _ _ r2 => ?_) (fun _ _ h => h.elim)
  obtain ⟨rfl, I1, L1, rfl, hM1⟩ := r2
  refine J_eq (st' := [.int 0]) rfl rfl rfl ?_
  exact J_ireturn rfl (by first | rfl | assumption | simp [kb_nar]) dX8_relaysByJoining_6 (⟨rfl, _, _, rfl, hM1⟩) (by omega) (by omega)

set_option maxRecDepth 20000 in
set_option maxHeartbeats 1000000 in
theorem c_X8_relaysByJoining_e {cy : Nat → ClassId} {S : Nat → Nat → Nat} {I : kI} {L : kL} {R : kRf} {m : Mu} {cd : Int32} {s : Nat} (hM : MR m cd I L) {Ic : kI} {Lc : kL} {Rc : kRf} {LPc : List Nat} {rc : Nat → Nat} {ln qu : List Nat} {lg B : Nat} (hR : Rel m Ic Lc Rc LPc rc ln qu lg) (hI : Inv m B) (hB : B + 90000 < 2 ^ 30) (hs : s < mS m) : Con yX8_relaysByJoining cX8_relaysByJoining 3 (some .int) 7 0 0 cy [.ref (ka S 30 0), .int (nI s), .int (nI s)] (wm cy S I L R) (fun r w' => r = some (.int 0) ∧ MX cy S R m 2 w') kF := by
  have hn : mN m := ⟨hR.1.1, hR.2.1.1⟩
  have h10 := hI.1
  have h150 := hI.2.2.1
  have hg0 := inv_g hI (by omega)
  have hkk := hI.2.2.2.1
  have hh := hI.2.2.2.2.1
  refine Con_of (by decide +kernel) (Nat.le_of_ble_eq_true rfl) ?_
  refine J_eq (lv' := [(0, .ref (ka S 30 0)), (1, .int (nI s)), (2, .int (nI s))]) rfl rfl rfl ?_
  refine J_aload_n 0 rfl dX8_relaysByJoining_0 ?_
  refine J_iload_n 1 rfl dX8_relaysByJoining_1 ?_
  refine J_iload_n 2 rfl dX8_relaysByJoining_2 ?_
  refine cv_8_141 (cells' := 0) (slots' := 0) dX8_relaysByJoining_3 (c_X8_relayed_e hM hR hI hB hs) n30 ⟨by decide, by decide⟩ rfl rfl (by decide) (by decide) (Nat.le_of_ble_eq_true rfl) (fun _ _ r2 => ?_) (fun _ _ h => h.elim)
  obtain ⟨rfl, I1, L1, rfl, hM1⟩ := r2
  refine J_eq (st' := [.int 0]) rfl rfl rfl ?_
  exact J_ireturn rfl (by first | rfl | assumption | simp [kb_nar]) dX8_relaysByJoining_6 (⟨rfl, _, _, rfl, hM1⟩) (by omega) (by omega)

set_option maxRecDepth 20000 in
set_option maxHeartbeats 1000000 in
theorem c_X8_relaysByJoining_x {cy : Nat → ClassId} {S : Nat → Nat → Nat} {I : kI} {L : kL} {R : kRf} {m : Mu} {cd : Int32} {x y : Int32} (hM : MR m cd I L) {Ic : kI} {Lc : kL} {Rc : kRf} {LPc : List Nat} {rc : Nat → Nat} {ln qu : List Nat} {lg B : Nat} (hR : Rel m Ic Lc Rc LPc rc ln qu lg) (hI : Inv m B) (hB : B + 90000 < 2 ^ 30) (hx : ∀ s, s < mS m → x ≠ nI s) : Con yX8_relaysByJoining cX8_relaysByJoining 3 (some .int) 7 0 0 cy [.ref (ka S 30 0), .int x, .int y] (wm cy S I L R) (fun r w' => r = some (.int 0) ∧ MX cy S R m 1 w') kF := by
  have hn : mN m := ⟨hR.1.1, hR.2.1.1⟩
  have h10 := hI.1
  have h150 := hI.2.2.1
  have hg0 := inv_g hI (by omega)
  have hkk := hI.2.2.2.1
  have hh := hI.2.2.2.2.1
  refine Con_of (by decide +kernel) (Nat.le_of_ble_eq_true rfl) ?_
  refine J_eq (lv' := [(0, .ref (ka S 30 0)), (1, .int x), (2, .int y)]) rfl rfl rfl ?_
  refine J_aload_n 0 rfl dX8_relaysByJoining_0 ?_
  refine J_iload_n 1 rfl dX8_relaysByJoining_1 ?_
  refine J_iload_n 2 rfl dX8_relaysByJoining_2 ?_
  refine cv_8_141 (cells' := 0) (slots' := 0) dX8_relaysByJoining_3 (c_X8_relayed_x hM hR hI hB hx) n30 ⟨by decide, by decide⟩ rfl rfl (by decide) (by decide) (Nat.le_of_ble_eq_true rfl) (fun _ _ r2 => ?_) (fun _ _ h => h.elim)
  obtain ⟨rfl, I1, L1, rfl, hM1⟩ := r2
  refine J_eq (st' := [.int 0]) rfl rfl rfl ?_
  exact J_ireturn rfl (by first | rfl | assumption | simp [kb_nar]) dX8_relaysByJoining_6 (⟨rfl, _, _, rfl, hM1⟩) (by omega) (by omega)

set_option maxRecDepth 20000 in
set_option maxHeartbeats 1000000 in
theorem c_X8_relaysByJoining_y {cy : Nat → ClassId} {S : Nat → Nat → Nat} {I : kI} {L : kL} {R : kRf} {m : Mu} {cd : Int32} {s : Nat} {x : Int32} (hM : MR m cd I L) {Ic : kI} {Lc : kL} {Rc : kRf} {LPc : List Nat} {rc : Nat → Nat} {ln qu : List Nat} {lg B : Nat} (hR : Rel m Ic Lc Rc LPc rc ln qu lg) (hI : Inv m B) (hB : B + 90000 < 2 ^ 30) (hs : s < mS m) (hx : ∀ s, s < mS m → x ≠ nI s) : Con yX8_relaysByJoining cX8_relaysByJoining 3 (some .int) 7 0 0 cy [.ref (ka S 30 0), .int (nI s), .int x] (wm cy S I L R) (fun r w' => r = some (.int 0) ∧ MX cy S R m 1 w') kF := by
  have hn : mN m := ⟨hR.1.1, hR.2.1.1⟩
  have h10 := hI.1
  have h150 := hI.2.2.1
  have hg0 := inv_g hI (by omega)
  have hkk := hI.2.2.2.1
  have hh := hI.2.2.2.2.1
  refine Con_of (by decide +kernel) (Nat.le_of_ble_eq_true rfl) ?_
  refine J_eq (lv' := [(0, .ref (ka S 30 0)), (1, .int (nI s)), (2, .int x)]) rfl rfl rfl ?_
  refine J_aload_n 0 rfl dX8_relaysByJoining_0 ?_
  refine J_iload_n 1 rfl dX8_relaysByJoining_1 ?_
  refine J_iload_n 2 rfl dX8_relaysByJoining_2 ?_
  refine cv_8_141 (cells' := 0) (slots' := 0) dX8_relaysByJoining_3 (c_X8_relayed_y hM hR hI hB hs hx) n30 ⟨by decide, by decide⟩ rfl rfl (by decide) (by decide) (Nat.le_of_ble_eq_true rfl) (fun _ _ r2 => ?_) (fun _ _ h => h.elim)
  obtain ⟨rfl, I1, L1, rfl, hM1⟩ := r2
  refine J_eq (st' := [.int 0]) rfl rfl rfl ?_
  exact J_ireturn rfl (by first | rfl | assumption | simp [kb_nar]) dX8_relaysByJoining_6 (⟨rfl, _, _, rfl, hM1⟩) (by omega) (by omega)

set_option maxRecDepth 20000 in
set_option maxHeartbeats 1000000 in
theorem c_X8_onWay_s {cy : Nat → ClassId} {S : Nat → Nat → Nat} {I : kI} {L : kL} {R : kRf} {m : Mu} {cd : Int32} {s t j x : Nat} (hM : MR m cd I L) {Ic : kI} {Lc : kL} {Rc : kRf} {LPc : List Nat} {rc : Nat → Nat} {ln qu : List Nat} {lg B : Nat} (hR : Rel m Ic Lc Rc LPc rc ln qu lg) (hI : Inv m B) (hB : B + 90000 < 2 ^ 30) (hs : s < mS m) (ht : t < mS m) (hne : s ≠ t) (hx : (mWay m (nI s) (nI t))[j]? = some x) : Con yX8_onWay cX8_onWay 4 (some .int) 7 0 0 cy [.ref (ka S 30 0), .int (nI s), .int (nI t), .int (nI j)] (wm cy S I L R) (fun r w' => r = some (.int (nI x)) ∧ MX cy S R m 0 w') kF := by
  have hn : mN m := ⟨hR.1.1, hR.2.1.1⟩
  have h10 := hI.1
  have h150 := hI.2.2.1
  have hg0 := inv_g hI (by omega)
  have hkk := hI.2.2.2.1
  have hh := hI.2.2.2.2.1
  have hl10 : (mWay m (nI s) (nI t)).length ≤ 10 := by
    have := (gWay_le (adj := mAdj m) h10 ht hs).1
    unfold mWay; rw [nI_toNat (by omega), nI_toNat (by omega)]; exact this
  have hjl : j < (mWay m (nI s) (nI t)).length := (List.getElem?_eq_some_iff.mp hx).1
  have hw : (mWay m (nI s) (nI t)) ≠ [] := by intro z; rw [z] at hjl; simp at hjl
  refine Con_of (by decide +kernel) (Nat.le_of_ble_eq_true rfl) ?_
  refine J_eq (lv' := [(0, .ref (ka S 30 0)), (1, .int (nI s)), (2, .int (nI t)), (3, .int (nI j))]) rfl rfl rfl ?_
  refine J_aload_n 0 rfl dX8_onWay_0 ?_
  refine J_iload_n 1 rfl dX8_onWay_1 ?_
  refine J_iload_n 2 rfl dX8_onWay_2 ?_
  refine cv_8_132 (cells' := 0) (slots' := 0) dX8_onWay_3 (c_X8_areNoTwo_s hM hR hI hB hs ht hne) n30 ⟨by decide, by decide⟩ rfl rfl (by decide) (by decide) (Nat.le_of_ble_eq_true rfl) (fun _ _ r2 => ?_) (fun _ _ h => h.elim)
  obtain ⟨rfl, I1, L1, rfl, hM1⟩ := r2
  refine J_eq (st' := [.int 0]) rfl rfl rfl ?_
  refine J_if_ne 44 (by decide) dX8_onWay_6 (fun c3 => ?_) (fun c3 => ?_)
  · exact absurd (by decide) c3
  refine J_aload_n 0 rfl dX8_onWay_9 ?_
  refine J_aload_n 0 rfl dX8_onWay_10 ?_
  refine J_iload_n 1 rfl dX8_onWay_11 ?_
  refine J_iload_n 2 rfl dX8_onWay_12 ?_
  refine cv_8_138 (cells' := 0) (slots' := 0) dX8_onWay_13 (c_X8_finds hM1 hn h10 hs ht) n30 ⟨by decide, by decide⟩ rfl rfl (by decide) (by decide) (Nat.le_of_ble_eq_true rfl) (fun _ _ r5 => ?_) (fun _ _ h => h.elim)
  obtain ⟨rfl, I4, L4, rfl, hM4, hww⟩ := r5
  refine J_eq (st' := [.int (kb (decide ((mWay m (nI s) (nI t)) ≠ []))), .ref (ka S 30 0)]) rfl rfl rfl ?_
  refine J_topeq 1 (by rw [decide_eq_true hw]; rfl) ?_
  refine J_if_eq 37 (by decide) dX8_onWay_16 (fun c6 => ?_) (fun c6 => ?_)
  · exact absurd c6 (by decide)
  refine J_iload_n 3 rfl dX8_onWay_19 ?_
  refine J_iconst (v := 0) (by decide) dX8_onWay_20 ?_
  refine J_aload_n 0 rfl dX8_onWay_21 ?_
  refine gf_8_106 n30 dX8_onWay_22 ?_
  refine J_topeq (nI (mWay m (nI s) (nI t)).length) (by exact (hww hw).1) ?_
  refine J_iconst (v := 1) (by decide) dX8_onWay_25 ?_
  refine J_isub dX8_onWay_26 ?_
  refine cv_8_91 (i := 0) (cells' := 0) (slots' := 0) dX8_onWay_27 (c_X8_in) ⟨by decide, by decide⟩ rfl rfl (by decide) (by decide) (Nat.le_of_ble_eq_true rfl) (fun _ _ r7 => ?_) (fun _ _ h => h.elim)
  obtain ⟨rfl, rfl⟩ := r7
  refine J_eq (st' := [.int (kb (decide (0 ≤ (nI j)) && decide ((nI j) ≤ ((nI (mWay m (nI s) (nI t)).length) - 1)))), .ref (ka S 30 0)]) rfl rfl rfl ?_
  refine J_topeq 1 (by rw [nb_t (none_f (by omega) hjl)]; rfl) ?_
  refine J_if_eq 37 (by decide) dX8_onWay_30 (fun c8 => ?_) (fun c8 => ?_)
  · exact absurd c8 (by decide)
  refine J_iconst (v := 0) (by decide) dX8_onWay_33 ?_
  refine J_goto 38 (by decide) dX8_onWay_34 ?_
  refine cv_8_113 (cells' := 0) (slots' := 0) dX8_onWay_38 (c_X8_failsE (x := 0)) n30 ⟨by decide, by decide⟩ rfl rfl (by decide) (by decide) (Nat.le_of_ble_eq_true rfl) (fun _ _ r9 => ?_) (fun _ _ h => h.elim)
  obtain ⟨rfl, rfl⟩ := r9
  refine J_eq (st' := [.int (kb (decide (0 < (0 : Int32))))]) rfl rfl rfl ?_
  have hM10 := MR_cd hM4 (v := 0)
  refine J_topeq 0 (by decide) ?_
  refine J_if_eq 48 (by decide) dX8_onWay_41 (fun c11 => ?_) (fun c11 => ?_)
  rotate_left
  · exact absurd (by decide) c11
  refine J_aload_n 0 rfl dX8_onWay_48 ?_
  refine gf_8_32 n30 dX8_onWay_49 ?_
  refine J_iload_n 3 rfl dX8_onWay_52 ?_
  refine J_iald j 0 n48 rfl rfl (vp_in_nI (by omega) (by decide)) (nI_toNat (by omega)) dX8_onWay_53 ?_
  refine J_topeq (I4 48 0 j) (by simp [ku]) ?_
  refine J_topeq (nI x) (by exact (hww hw).2 j x hx) ?_
  exact J_ireturn rfl (by first | rfl | assumption | simp [kb_nar]) dX8_onWay_54 (⟨rfl, _, _, rfl, hM10⟩) (by omega) (by omega)

set_option maxRecDepth 20000 in
set_option maxHeartbeats 1000000 in
theorem c_X8_onWay_n {cy : Nat → ClassId} {S : Nat → Nat → Nat} {I : kI} {L : kL} {R : kRf} {m : Mu} {cd : Int32} {s t : Nat} {x : Int32} (hM : MR m cd I L) {Ic : kI} {Lc : kL} {Rc : kRf} {LPc : List Nat} {rc : Nat → Nat} {ln qu : List Nat} {lg B : Nat} (hR : Rel m Ic Lc Rc LPc rc ln qu lg) (hI : Inv m B) (hB : B + 90000 < 2 ^ 30) (hs : s < mS m) (ht : t < mS m) (hne : s ≠ t) (hw : (mWay m (nI s) (nI t)) ≠ []) (hx : ∀ j, j < (mWay m (nI s) (nI t)).length → x ≠ nI j) : Con yX8_onWay cX8_onWay 4 (some .int) 7 0 0 cy [.ref (ka S 30 0), .int (nI s), .int (nI t), .int x] (wm cy S I L R) (fun r w' => r = some (.int 0) ∧ MX cy S R m 3 w') kF := by
  have hn : mN m := ⟨hR.1.1, hR.2.1.1⟩
  have h10 := hI.1
  have h150 := hI.2.2.1
  have hg0 := inv_g hI (by omega)
  have hkk := hI.2.2.2.1
  have hh := hI.2.2.2.2.1
  have hl10 : (mWay m (nI s) (nI t)).length ≤ 10 := by
    have := (gWay_le (adj := mAdj m) h10 ht hs).1
    unfold mWay; rw [nI_toNat (by omega), nI_toNat (by omega)]; exact this
  refine Con_of (by decide +kernel) (Nat.le_of_ble_eq_true rfl) ?_
  refine J_eq (lv' := [(0, .ref (ka S 30 0)), (1, .int (nI s)), (2, .int (nI t)), (3, .int x)]) rfl rfl rfl ?_
  refine J_aload_n 0 rfl dX8_onWay_0 ?_
  refine J_iload_n 1 rfl dX8_onWay_1 ?_
  refine J_iload_n 2 rfl dX8_onWay_2 ?_
  refine cv_8_132 (cells' := 0) (slots' := 0) dX8_onWay_3 (c_X8_areNoTwo_s hM hR hI hB hs ht hne) n30 ⟨by decide, by decide⟩ rfl rfl (by decide) (by decide) (Nat.le_of_ble_eq_true rfl) (fun _ _ r2 => ?_) (fun _ _ h => h.elim)
  obtain ⟨rfl, I1, L1, rfl, hM1⟩ := r2
  refine J_eq (st' := [.int 0]) rfl rfl rfl ?_
  refine J_if_ne 44 (by decide) dX8_onWay_6 (fun c3 => ?_) (fun c3 => ?_)
  · exact absurd (by decide) c3
  refine J_aload_n 0 rfl dX8_onWay_9 ?_
  refine J_aload_n 0 rfl dX8_onWay_10 ?_
  refine J_iload_n 1 rfl dX8_onWay_11 ?_
  refine J_iload_n 2 rfl dX8_onWay_12 ?_
  refine cv_8_138 (cells' := 0) (slots' := 0) dX8_onWay_13 (c_X8_finds hM1 hn h10 hs ht) n30 ⟨by decide, by decide⟩ rfl rfl (by decide) (by decide) (Nat.le_of_ble_eq_true rfl) (fun _ _ r5 => ?_) (fun _ _ h => h.elim)
  obtain ⟨rfl, I4, L4, rfl, hM4, hww⟩ := r5
  refine J_eq (st' := [.int (kb (decide ((mWay m (nI s) (nI t)) ≠ []))), .ref (ka S 30 0)]) rfl rfl rfl ?_
  refine J_topeq 1 (by rw [decide_eq_true hw]; rfl) ?_
  refine J_if_eq 37 (by decide) dX8_onWay_16 (fun c6 => ?_) (fun c6 => ?_)
  · exact absurd c6 (by decide)
  refine J_iload_n 3 rfl dX8_onWay_19 ?_
  refine J_iconst (v := 0) (by decide) dX8_onWay_20 ?_
  refine J_aload_n 0 rfl dX8_onWay_21 ?_
  refine gf_8_106 n30 dX8_onWay_22 ?_
  refine J_topeq (nI (mWay m (nI s) (nI t)).length) (by exact (hww hw).1) ?_
  refine J_iconst (v := 1) (by decide) dX8_onWay_25 ?_
  refine J_isub dX8_onWay_26 ?_
  refine cv_8_91 (i := 0) (cells' := 0) (slots' := 0) dX8_onWay_27 (c_X8_in) ⟨by decide, by decide⟩ rfl rfl (by decide) (by decide) (Nat.le_of_ble_eq_true rfl) (fun _ _ r7 => ?_) (fun _ _ h => h.elim)
  obtain ⟨rfl, rfl⟩ := r7
  refine J_eq (st' := [.int (kb (decide (0 ≤ x) && decide (x ≤ ((nI (mWay m (nI s) (nI t)).length) - 1)))), .ref (ka S 30 0)]) rfl rfl rfl ?_
  refine J_topeq 0 (by rw [nb_f (none_t (by omega) hx)]; rfl) ?_
  refine J_if_eq 37 (by decide) dX8_onWay_30 (fun c8 => ?_) (fun c8 => ?_)
  rotate_left
  · exact absurd (by decide) c8
  refine J_iconst (v := 3) (by decide) dX8_onWay_37 ?_
  refine cv_8_113 (cells' := 0) (slots' := 0) dX8_onWay_38 (c_X8_failsE (x := 3)) n30 ⟨by decide, by decide⟩ rfl rfl (by decide) (by decide) (Nat.le_of_ble_eq_true rfl) (fun _ _ r9 => ?_) (fun _ _ h => h.elim)
  obtain ⟨rfl, rfl⟩ := r9
  refine J_eq (st' := [.int (kb (decide (0 < (3 : Int32))))]) rfl rfl rfl ?_
  have hM10 := MR_cd hM4 (v := 3)
  refine J_topeq 1 (by decide) ?_
  refine J_if_eq 48 (by decide) dX8_onWay_41 (fun c11 => ?_) (fun c11 => ?_)
  · exact absurd c11 (by decide)
  refine J_iconst (v := 0) (by decide) dX8_onWay_44 ?_
  refine J_goto 54 (by decide) dX8_onWay_45 ?_
  exact J_ireturn rfl (by first | rfl | assumption | simp [kb_nar]) dX8_onWay_54 (⟨rfl, _, _, rfl, hM10⟩) (by omega) (by omega)

set_option maxRecDepth 20000 in
set_option maxHeartbeats 1000000 in
theorem c_X8_onWay_m {cy : Nat → ClassId} {S : Nat → Nat → Nat} {I : kI} {L : kL} {R : kRf} {m : Mu} {cd : Int32} {s t : Nat} {x : Int32} (hM : MR m cd I L) {Ic : kI} {Lc : kL} {Rc : kRf} {LPc : List Nat} {rc : Nat → Nat} {ln qu : List Nat} {lg B : Nat} (hR : Rel m Ic Lc Rc LPc rc ln qu lg) (hI : Inv m B) (hB : B + 90000 < 2 ^ 30) (hs : s < mS m) (ht : t < mS m) (hne : s ≠ t) (hw : (mWay m (nI s) (nI t)) = []) : Con yX8_onWay cX8_onWay 4 (some .int) 7 0 0 cy [.ref (ka S 30 0), .int (nI s), .int (nI t), .int x] (wm cy S I L R) (fun r w' => r = some (.int 0) ∧ MX cy S R m 3 w') kF := by
  have hn : mN m := ⟨hR.1.1, hR.2.1.1⟩
  have h10 := hI.1
  have h150 := hI.2.2.1
  have hg0 := inv_g hI (by omega)
  have hkk := hI.2.2.2.1
  have hh := hI.2.2.2.2.1
  refine Con_of (by decide +kernel) (Nat.le_of_ble_eq_true rfl) ?_
  refine J_eq (lv' := [(0, .ref (ka S 30 0)), (1, .int (nI s)), (2, .int (nI t)), (3, .int x)]) rfl rfl rfl ?_
  refine J_aload_n 0 rfl dX8_onWay_0 ?_
  refine J_iload_n 1 rfl dX8_onWay_1 ?_
  refine J_iload_n 2 rfl dX8_onWay_2 ?_
  refine cv_8_132 (cells' := 0) (slots' := 0) dX8_onWay_3 (c_X8_areNoTwo_s hM hR hI hB hs ht hne) n30 ⟨by decide, by decide⟩ rfl rfl (by decide) (by decide) (Nat.le_of_ble_eq_true rfl) (fun _ _ r2 => ?_) (fun _ _ h => h.elim)
  obtain ⟨rfl, I1, L1, rfl, hM1⟩ := r2
  refine J_eq (st' := [.int 0]) rfl rfl rfl ?_
  refine J_if_ne 44 (by decide) dX8_onWay_6 (fun c3 => ?_) (fun c3 => ?_)
  · exact absurd (by decide) c3
  refine J_aload_n 0 rfl dX8_onWay_9 ?_
  refine J_aload_n 0 rfl dX8_onWay_10 ?_
  refine J_iload_n 1 rfl dX8_onWay_11 ?_
  refine J_iload_n 2 rfl dX8_onWay_12 ?_
  refine cv_8_138 (cells' := 0) (slots' := 0) dX8_onWay_13 (c_X8_finds hM1 hn h10 hs ht) n30 ⟨by decide, by decide⟩ rfl rfl (by decide) (by decide) (Nat.le_of_ble_eq_true rfl) (fun _ _ r5 => ?_) (fun _ _ h => h.elim)
  obtain ⟨rfl, I4, L4, rfl, hM4, hww⟩ := r5
  refine J_eq (st' := [.int (kb (decide ((mWay m (nI s) (nI t)) ≠ []))), .ref (ka S 30 0)]) rfl rfl rfl ?_
  refine J_topeq 0 (by rw [hw]; rfl) ?_
  refine J_if_eq 37 (by decide) dX8_onWay_16 (fun c6 => ?_) (fun c6 => ?_)
  rotate_left
  · exact absurd (by decide) c6
  refine J_iconst (v := 3) (by decide) dX8_onWay_37 ?_
  refine cv_8_113 (cells' := 0) (slots' := 0) dX8_onWay_38 (c_X8_failsE (x := 3)) n30 ⟨by decide, by decide⟩ rfl rfl (by decide) (by decide) (Nat.le_of_ble_eq_true rfl) (fun _ _ r7 => ?_) (fun _ _ h => h.elim)
  obtain ⟨rfl, rfl⟩ := r7
  refine J_eq (st' := [.int (kb (decide (0 < (3 : Int32))))]) rfl rfl rfl ?_
  have hM8 := MR_cd hM4 (v := 3)
  refine J_topeq 1 (by decide) ?_
  refine J_if_eq 48 (by decide) dX8_onWay_41 (fun c9 => ?_) (fun c9 => ?_)
  · exact absurd c9 (by decide)
  refine J_iconst (v := 0) (by decide) dX8_onWay_44 ?_
  refine J_goto 54 (by decide) dX8_onWay_45 ?_
  exact J_ireturn rfl (by first | rfl | assumption | simp [kb_nar]) dX8_onWay_54 (⟨rfl, _, _, rfl, hM8⟩) (by omega) (by omega)

set_option maxRecDepth 20000 in
set_option maxHeartbeats 1000000 in
theorem c_X8_onWay_e {cy : Nat → ClassId} {S : Nat → Nat → Nat} {I : kI} {L : kL} {R : kRf} {m : Mu} {cd : Int32} {s : Nat} {v : Int32} (hM : MR m cd I L) {Ic : kI} {Lc : kL} {Rc : kRf} {LPc : List Nat} {rc : Nat → Nat} {ln qu : List Nat} {lg B : Nat} (hR : Rel m Ic Lc Rc LPc rc ln qu lg) (hI : Inv m B) (hB : B + 90000 < 2 ^ 30) (hs : s < mS m) : Con yX8_onWay cX8_onWay 4 (some .int) 7 0 0 cy [.ref (ka S 30 0), .int (nI s), .int (nI s), .int v] (wm cy S I L R) (fun r w' => r = some (.int 0) ∧ MX cy S R m 2 w') kF := by
  have hn : mN m := ⟨hR.1.1, hR.2.1.1⟩
  have h10 := hI.1
  have h150 := hI.2.2.1
  have hg0 := inv_g hI (by omega)
  have hkk := hI.2.2.2.1
  have hh := hI.2.2.2.2.1
  refine Con_of (by decide +kernel) (Nat.le_of_ble_eq_true rfl) ?_
  refine J_eq (lv' := [(0, .ref (ka S 30 0)), (1, .int (nI s)), (2, .int (nI s)), (3, .int v)]) rfl rfl rfl ?_
  refine J_aload_n 0 rfl dX8_onWay_0 ?_
  refine J_iload_n 1 rfl dX8_onWay_1 ?_
  refine J_iload_n 2 rfl dX8_onWay_2 ?_
  refine cv_8_132 (cells' := 0) (slots' := 0) dX8_onWay_3 (c_X8_areNoTwo_e hM hR hI hB hs) n30 ⟨by decide, by decide⟩ rfl rfl (by decide) (by decide) (Nat.le_of_ble_eq_true rfl) (fun _ _ r2 => ?_) (fun _ _ h => h.elim)
  obtain ⟨rfl, I1, L1, rfl, hM1⟩ := r2
  refine J_eq (st' := [.int 1]) rfl rfl rfl ?_
  refine J_if_ne 44 (by decide) dX8_onWay_6 (fun c3 => ?_) (fun c3 => ?_)
  rotate_left
  · exact absurd c3 (by decide)
  refine J_iconst (v := 0) (by decide) dX8_onWay_44 ?_
  refine J_goto 54 (by decide) dX8_onWay_45 ?_
  exact J_ireturn rfl (by first | rfl | assumption | simp [kb_nar]) dX8_onWay_54 (⟨rfl, _, _, rfl, hM1⟩) (by omega) (by omega)

set_option maxRecDepth 20000 in
set_option maxHeartbeats 1000000 in
theorem c_X8_onWay_x {cy : Nat → ClassId} {S : Nat → Nat → Nat} {I : kI} {L : kL} {R : kRf} {m : Mu} {cd : Int32} {x y : Int32} {v : Int32} (hM : MR m cd I L) {Ic : kI} {Lc : kL} {Rc : kRf} {LPc : List Nat} {rc : Nat → Nat} {ln qu : List Nat} {lg B : Nat} (hR : Rel m Ic Lc Rc LPc rc ln qu lg) (hI : Inv m B) (hB : B + 90000 < 2 ^ 30) (hx : ∀ s, s < mS m → x ≠ nI s) : Con yX8_onWay cX8_onWay 4 (some .int) 7 0 0 cy [.ref (ka S 30 0), .int x, .int y, .int v] (wm cy S I L R) (fun r w' => r = some (.int 0) ∧ MX cy S R m 1 w') kF := by
  have hn : mN m := ⟨hR.1.1, hR.2.1.1⟩
  have h10 := hI.1
  have h150 := hI.2.2.1
  have hg0 := inv_g hI (by omega)
  have hkk := hI.2.2.2.1
  have hh := hI.2.2.2.2.1
  refine Con_of (by decide +kernel) (Nat.le_of_ble_eq_true rfl) ?_
  refine J_eq (lv' := [(0, .ref (ka S 30 0)), (1, .int x), (2, .int y), (3, .int v)]) rfl rfl rfl ?_
  refine J_aload_n 0 rfl dX8_onWay_0 ?_
  refine J_iload_n 1 rfl dX8_onWay_1 ?_
  refine J_iload_n 2 rfl dX8_onWay_2 ?_
  refine cv_8_132 (cells' := 0) (slots' := 0) dX8_onWay_3 (c_X8_areNoTwo_x hM hR hI hB hx) n30 ⟨by decide, by decide⟩ rfl rfl (by decide) (by decide) (Nat.le_of_ble_eq_true rfl) (fun _ _ r2 => ?_) (fun _ _ h => h.elim)
  obtain ⟨rfl, I1, L1, rfl, hM1⟩ := r2
  refine J_eq (st' := [.int 1]) rfl rfl rfl ?_
  refine J_if_ne 44 (by decide) dX8_onWay_6 (fun c3 => ?_) (fun c3 => ?_)
  rotate_left
  · exact absurd c3 (by decide)
  refine J_iconst (v := 0) (by decide) dX8_onWay_44 ?_
  refine J_goto 54 (by decide) dX8_onWay_45 ?_
  exact J_ireturn rfl (by first | rfl | assumption | simp [kb_nar]) dX8_onWay_54 (⟨rfl, _, _, rfl, hM1⟩) (by omega) (by omega)

set_option maxRecDepth 20000 in
set_option maxHeartbeats 1000000 in
theorem c_X8_onWay_y {cy : Nat → ClassId} {S : Nat → Nat → Nat} {I : kI} {L : kL} {R : kRf} {m : Mu} {cd : Int32} {s : Nat} {x : Int32} {v : Int32} (hM : MR m cd I L) {Ic : kI} {Lc : kL} {Rc : kRf} {LPc : List Nat} {rc : Nat → Nat} {ln qu : List Nat} {lg B : Nat} (hR : Rel m Ic Lc Rc LPc rc ln qu lg) (hI : Inv m B) (hB : B + 90000 < 2 ^ 30) (hs : s < mS m) (hx : ∀ s, s < mS m → x ≠ nI s) : Con yX8_onWay cX8_onWay 4 (some .int) 7 0 0 cy [.ref (ka S 30 0), .int (nI s), .int x, .int v] (wm cy S I L R) (fun r w' => r = some (.int 0) ∧ MX cy S R m 1 w') kF := by
  have hn : mN m := ⟨hR.1.1, hR.2.1.1⟩
  have h10 := hI.1
  have h150 := hI.2.2.1
  have hg0 := inv_g hI (by omega)
  have hkk := hI.2.2.2.1
  have hh := hI.2.2.2.2.1
  refine Con_of (by decide +kernel) (Nat.le_of_ble_eq_true rfl) ?_
  refine J_eq (lv' := [(0, .ref (ka S 30 0)), (1, .int (nI s)), (2, .int x), (3, .int v)]) rfl rfl rfl ?_
  refine J_aload_n 0 rfl dX8_onWay_0 ?_
  refine J_iload_n 1 rfl dX8_onWay_1 ?_
  refine J_iload_n 2 rfl dX8_onWay_2 ?_
  refine cv_8_132 (cells' := 0) (slots' := 0) dX8_onWay_3 (c_X8_areNoTwo_y hM hR hI hB hs hx) n30 ⟨by decide, by decide⟩ rfl rfl (by decide) (by decide) (Nat.le_of_ble_eq_true rfl) (fun _ _ r2 => ?_) (fun _ _ h => h.elim)
  obtain ⟨rfl, I1, L1, rfl, hM1⟩ := r2
  refine J_eq (st' := [.int 1]) rfl rfl rfl ?_
  refine J_if_ne 44 (by decide) dX8_onWay_6 (fun c3 => ?_) (fun c3 => ?_)
  rotate_left
  · exact absurd c3 (by decide)
  refine J_iconst (v := 0) (by decide) dX8_onWay_44 ?_
  refine J_goto 54 (by decide) dX8_onWay_45 ?_
  exact J_ireturn rfl (by first | rfl | assumption | simp [kb_nar]) dX8_onWay_54 (⟨rfl, _, _, rfl, hM1⟩) (by omega) (by omega)

