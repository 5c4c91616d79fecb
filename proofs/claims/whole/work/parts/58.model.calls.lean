/-! the model: the public calls that change; calls; the log -/

set_option maxRecDepth 20000 in
set_option maxHeartbeats 1000000 in
theorem c_X8_move_s {cy : Nat → ClassId} {S : Nat → Nat → Nat} {I : kI} {L : kL} {R : kRf} {m : Mu} {cd : Int32} {s : Nat} {p : Int32} (hM : MR m cd I L) {Ic : kI} {Lc : kL} {Rc : kRf} {LPc : List Nat} {rc : Nat → Nat} {ln qu : List Nat} {lg B : Nat} (hR : Rel m Ic Lc Rc LPc rc ln qu lg) (hI : Inv m B) (hB : B + 90000 < 2 ^ 30) (hs : s < mS m) (hp : 0 ≤ p ∧ p ≤ 300) : Con yX8_move cX8_move 4 (some .int) 7 0 0 cy [.ref (ka S 30 0), .int (nI s), .int p] (wm cy S I L R) (fun r w' => r = some (.int (m.1 41 s)) ∧ MX cy S R (mSpeak (mvM m s p)) 0 w') kF := by
  have hn : mN m := ⟨hR.1.1, hR.2.1.1⟩
  have h10 := hI.1
  have h150 := hI.2.2.1
  have hg0 := inv_g hI (by omega)
  have hkk := hI.2.2.2.1
  have hh := hI.2.2.2.2.1
  refine Con_of (by decide +kernel) (Nat.le_of_ble_eq_true rfl) ?_
  refine J_eq (lv' := [(0, .ref (ka S 30 0)), (1, .int (nI s)), (2, .int p)]) rfl rfl rfl ?_
  refine J_aload_n 0 rfl dX8_move_0 ?_
  refine J_aload_n 0 rfl dX8_move_1 ?_
  refine J_iload_n 1 rfl dX8_move_2 ?_
  refine cv_8_120 (cells' := 0) (slots' := 0) dX8_move_3 (c_X8_isNone hM hn) n30 ⟨by decide, by decide⟩ rfl rfl (by decide) (by decide) (Nat.le_of_ble_eq_true rfl) (fun _ _ r1 => ?_) (fun _ _ h => h.elim)
  obtain ⟨rfl, rfl⟩ := r1
  refine J_eq (st' := [.int (kb (!(decide (0 ≤ (nI s)) && decide ((nI s) ≤ nI (mS m) - 1)))), .ref (ka S 30 0)]) rfl rfl rfl ?_
  refine J_topeq 0 (by rw [none_f (n := mS m) (by omega) (by assumption)]; rfl) ?_
  refine J_if_eq 13 (by decide) dX8_move_6 (fun c2 => ?_) (fun c2 => ?_)
  rotate_left
  · exact absurd (by decide) c2
  refine J_iload_n 2 rfl dX8_move_13 ?_
  refine J_iconst (v := 0) (by decide) dX8_move_14 ?_
  refine J_sipush (v := 300) (by decide) dX8_move_15 ?_
  refine cv_8_91 (i := 0) (cells' := 0) (slots' := 0) dX8_move_18 (c_X8_in) ⟨by decide, by decide⟩ rfl rfl (by decide) (by decide) (Nat.le_of_ble_eq_true rfl) (fun _ _ r3 => ?_) (fun _ _ h => h.elim)
  obtain ⟨rfl, rfl⟩ := r3
  refine J_eq (st' := [.int (kb (decide (0 ≤ p) && decide (p ≤ 300))), .ref (ka S 30 0)]) rfl rfl rfl ?_
  refine J_topeq 1 (by rw [in_t hp]; rfl) ?_
  refine J_if_eq 28 (by decide) dX8_move_21 (fun c4 => ?_) (fun c4 => ?_)
  · exact absurd c4 (by decide)
  refine J_iconst (v := 0) (by decide) dX8_move_24 ?_
  refine J_goto 29 (by decide) dX8_move_25 ?_
  refine cv_8_113 (cells' := 0) (slots' := 0) dX8_move_29 (c_X8_failsE (x := 0)) n30 ⟨by decide, by decide⟩ rfl rfl (by decide) (by decide) (Nat.le_of_ble_eq_true rfl) (fun _ _ r5 => ?_) (fun _ _ h => h.elim)
  obtain ⟨rfl, rfl⟩ := r5
  refine J_eq (st' := [.int (kb (decide (0 < (0 : Int32))))]) rfl rfl rfl ?_
  have hM6 := MR_cd hM (v := 0)
  refine J_topeq 0 (by decide) ?_
  refine J_if_eq 37 (by decide) dX8_move_32 (fun c7 => ?_) (fun c7 => ?_)
  rotate_left
  · exact absurd (by decide) c7
  refine J_aload_n 0 rfl dX8_move_37 ?_
  refine gf_8_7 n30 dX8_move_38 ?_
  refine J_iload_n 1 rfl dX8_move_41 ?_
  refine J_iald s 0 n41 rfl rfl (vp_in_nI (by omega) (by decide)) (nI_toNat (by omega)) dX8_move_42 ?_
  refine J_topeq (m.1 41 s) (hM6.1 41 s rfl) ?_
  refine J_istore_n (lv' := [(0, .ref (ka S 30 0)), (1, .int (nI s)), (2, .int p), (3, .int (m.1 41 s))]) (by decide) rfl dX8_move_43 ?_
  refine J_aload_n 0 rfl dX8_move_44 ?_
  refine gf_8_7 n30 dX8_move_45 ?_
  refine J_iload_n 1 rfl dX8_move_48 ?_
  refine J_iload_n 2 rfl dX8_move_49 ?_
  refine J_iast (I' := ku (ku I 30 0 31 0) 41 0 s p) (L' := L) (R' := R) s 0 n41 rfl rfl (vp_in_nI (by omega) (by decide)) (nI_toNat (by omega)) (by rw [ku_own]; rfl) (fun k' i' h => ⟨ku_row _ _ h, rfl, rfl⟩) dX8_move_50 ?_
  have hM8 := MR_ms (k := 41) (j := s) (v := p) hM6 rfl
  refine J_aload_n 0 rfl dX8_move_51 ?_
  have hM9 : MR (mvM m s p) 0 (ku (ku I 30 0 31 0) 41 0 s p) L := (by exact hM8)
  refine cv_8_117 (cells' := 0) (slots' := 0) dX8_move_52 (c_X8_letsSpeak (m := (mvM m s p)) hM9 hn (inv_mv hI hp) (by omega)) n30 ⟨by decide, by decide⟩ rfl rfl (by decide) (by decide) (Nat.le_of_ble_eq_true rfl) (fun _ _ r11 => ?_) (fun _ _ h => h.elim)
  obtain ⟨rfl, I10, L10, rfl, hM10⟩ := r11
  refine J_eq (st' := []) rfl rfl rfl ?_
  refine J_iload_n 3 rfl dX8_move_55 ?_
  exact J_ireturn rfl (by first | rfl | assumption | simp [kb_nar]) dX8_move_56 (⟨rfl, _, _, rfl, hM10⟩) (by omega) (by omega)

set_option maxRecDepth 20000 in
set_option maxHeartbeats 1000000 in
theorem c_X8_move_y {cy : Nat → ClassId} {S : Nat → Nat → Nat} {I : kI} {L : kL} {R : kRf} {m : Mu} {cd : Int32} {s : Nat} {p : Int32} (hM : MR m cd I L) {Ic : kI} {Lc : kL} {Rc : kRf} {LPc : List Nat} {rc : Nat → Nat} {ln qu : List Nat} {lg B : Nat} (hR : Rel m Ic Lc Rc LPc rc ln qu lg) (hI : Inv m B) (hB : B + 90000 < 2 ^ 30) (hs : s < mS m) (hp : ¬ (0 ≤ p ∧ p ≤ 300)) : Con yX8_move cX8_move 4 (some .int) 7 0 0 cy [.ref (ka S 30 0), .int (nI s), .int p] (wm cy S I L R) (fun r w' => r = some (.int 0) ∧ MX cy S R m 2 w') kF := by
  have hn : mN m := ⟨hR.1.1, hR.2.1.1⟩
  have h10 := hI.1
  have h150 := hI.2.2.1
  have hg0 := inv_g hI (by omega)
  have hkk := hI.2.2.2.1
  have hh := hI.2.2.2.2.1
  refine Con_of (by decide +kernel) (Nat.le_of_ble_eq_true rfl) ?_
  refine J_eq (lv' := [(0, .ref (ka S 30 0)), (1, .int (nI s)), (2, .int p)]) rfl rfl rfl ?_
  refine J_aload_n 0 rfl dX8_move_0 ?_
  refine J_aload_n 0 rfl dX8_move_1 ?_
  refine J_iload_n 1 rfl dX8_move_2 ?_
  refine cv_8_120 (cells' := 0) (slots' := 0) dX8_move_3 (c_X8_isNone hM hn) n30 ⟨by decide, by decide⟩ rfl rfl (by decide) (by decide) (Nat.le_of_ble_eq_true rfl) (fun _ _ r1 => ?_) (fun _ _ h => h.elim)
  obtain ⟨rfl, rfl⟩ := r1
  refine J_eq (st' := [.int (kb (!(decide (0 ≤ (nI s)) && decide ((nI s) ≤ nI (mS m) - 1)))), .ref (ka S 30 0)]) rfl rfl rfl ?_
  refine J_topeq 0 (by rw [none_f (n := mS m) (by omega) (by assumption)]; rfl) ?_
  refine J_if_eq 13 (by decide) dX8_move_6 (fun c2 => ?_) (fun c2 => ?_)
  rotate_left
  · exact absurd (by decide) c2
  refine J_iload_n 2 rfl dX8_move_13 ?_
  refine J_iconst (v := 0) (by decide) dX8_move_14 ?_
  refine J_sipush (v := 300) (by decide) dX8_move_15 ?_
  refine cv_8_91 (i := 0) (cells' := 0) (slots' := 0) dX8_move_18 (c_X8_in) ⟨by decide, by decide⟩ rfl rfl (by decide) (by decide) (Nat.le_of_ble_eq_true rfl) (fun _ _ r3 => ?_) (fun _ _ h => h.elim)
  obtain ⟨rfl, rfl⟩ := r3
  refine J_eq (st' := [.int (kb (decide (0 ≤ p) && decide (p ≤ 300))), .ref (ka S 30 0)]) rfl rfl rfl ?_
  refine J_topeq 0 (by rw [in_f hp]; rfl) ?_
  refine J_if_eq 28 (by decide) dX8_move_21 (fun c4 => ?_) (fun c4 => ?_)
  rotate_left
  · exact absurd (by decide) c4
  refine J_iconst (v := 2) (by decide) dX8_move_28 ?_
  refine cv_8_113 (cells' := 0) (slots' := 0) dX8_move_29 (c_X8_failsE (x := 2)) n30 ⟨by decide, by decide⟩ rfl rfl (by decide) (by decide) (Nat.le_of_ble_eq_true rfl) (fun _ _ r5 => ?_) (fun _ _ h => h.elim)
  obtain ⟨rfl, rfl⟩ := r5
  refine J_eq (st' := [.int (kb (decide (0 < (2 : Int32))))]) rfl rfl rfl ?_
  have hM6 := MR_cd hM (v := 2)
  refine J_topeq 1 (by decide) ?_
  refine J_if_eq 37 (by decide) dX8_move_32 (fun c7 => ?_) (fun c7 => ?_)
  · exact absurd c7 (by decide)
  refine J_iconst (v := 0) (by decide) dX8_move_35 ?_
  exact J_ireturn rfl (by first | rfl | assumption | simp [kb_nar]) dX8_move_36 (⟨rfl, _, _, rfl, hM6⟩) (by omega) (by omega)

set_option maxRecDepth 20000 in
set_option maxHeartbeats 1000000 in
theorem c_X8_move_x {cy : Nat → ClassId} {S : Nat → Nat → Nat} {I : kI} {L : kL} {R : kRf} {m : Mu} {cd : Int32} {x p : Int32} (hM : MR m cd I L) {Ic : kI} {Lc : kL} {Rc : kRf} {LPc : List Nat} {rc : Nat → Nat} {ln qu : List Nat} {lg B : Nat} (hR : Rel m Ic Lc Rc LPc rc ln qu lg) (hI : Inv m B) (hB : B + 90000 < 2 ^ 30) (hx : ∀ s, s < mS m → x ≠ nI s) : Con yX8_move cX8_move 4 (some .int) 7 0 0 cy [.ref (ka S 30 0), .int x, .int p] (wm cy S I L R) (fun r w' => r = some (.int 0) ∧ MX cy S R m 1 w') kF := by
  have hn : mN m := ⟨hR.1.1, hR.2.1.1⟩
  have h10 := hI.1
  have h150 := hI.2.2.1
  have hg0 := inv_g hI (by omega)
  have hkk := hI.2.2.2.1
  have hh := hI.2.2.2.2.1
  refine Con_of (by decide +kernel) (Nat.le_of_ble_eq_true rfl) ?_
  refine J_eq (lv' := [(0, .ref (ka S 30 0)), (1, .int x), (2, .int p)]) rfl rfl rfl ?_
  refine J_aload_n 0 rfl dX8_move_0 ?_
  refine J_aload_n 0 rfl dX8_move_1 ?_
  refine J_iload_n 1 rfl dX8_move_2 ?_
  refine cv_8_120 (cells' := 0) (slots' := 0) dX8_move_3 (c_X8_isNone hM hn) n30 ⟨by decide, by decide⟩ rfl rfl (by decide) (by decide) (Nat.le_of_ble_eq_true rfl) (fun _ _ r1 => ?_) (fun _ _ h => h.elim)
  obtain ⟨rfl, rfl⟩ := r1
  refine J_eq (st' := [.int (kb (!(decide (0 ≤ x) && decide (x ≤ nI (mS m) - 1)))), .ref (ka S 30 0)]) rfl rfl rfl ?_
  refine J_topeq 1 (by rw [none_t (n := mS m) (by omega) (by assumption)]; rfl) ?_
  refine J_if_eq 13 (by decide) dX8_move_6 (fun c2 => ?_) (fun c2 => ?_)
  · exact absurd c2 (by decide)
  refine J_iconst (v := 1) (by decide) dX8_move_9 ?_
  refine J_goto 29 (by decide) dX8_move_10 ?_
  refine cv_8_113 (cells' := 0) (slots' := 0) dX8_move_29 (c_X8_failsE (x := 1)) n30 ⟨by decide, by decide⟩ rfl rfl (by decide) (by decide) (Nat.le_of_ble_eq_true rfl) (fun _ _ r3 => ?_) (fun _ _ h => h.elim)
  obtain ⟨rfl, rfl⟩ := r3
  refine J_eq (st' := [.int (kb (decide (0 < (1 : Int32))))]) rfl rfl rfl ?_
  have hM4 := MR_cd hM (v := 1)
  refine J_topeq 1 (by decide) ?_
  refine J_if_eq 37 (by decide) dX8_move_32 (fun c5 => ?_) (fun c5 => ?_)
  · exact absurd c5 (by decide)
  refine J_iconst (v := 0) (by decide) dX8_move_35 ?_
  exact J_ireturn rfl (by first | rfl | assumption | simp [kb_nar]) dX8_move_36 (⟨rfl, _, _, rfl, hM4⟩) (by omega) (by omega)

set_option maxRecDepth 20000 in
set_option maxHeartbeats 1000000 in
theorem c_X8_addStation_s {cy : Nat → ClassId} {S : Nat → Nat → Nat} {I : kI} {L : kL} {R : kRf} {m : Mu} {cd : Int32} {p z : Int32} (hM : MR m cd I L) {Ic : kI} {Lc : kL} {Rc : kRf} {LPc : List Nat} {rc : Nat → Nat} {ln qu : List Nat} {lg B : Nat} (hR : Rel m Ic Lc Rc LPc rc ln qu lg) (hI : Inv m B) (hB : B + 90000 < 2 ^ 30) (hp : 0 ≤ p ∧ p ≤ 300) (hr : 1 ≤ z ∧ z ≤ 100) (h9 : mS m < 10) : Con yX8_addStation cX8_addStation 3 (some .int) 7 0 0 cy [.ref (ka S 30 0), .int p, .int z] (wm cy S I L R) (fun r w' => r = some (.int (nI (mS m))) ∧ MX cy S R (mSpeak (adM m p z)) 0 w') kF := by
  have hn : mN m := ⟨hR.1.1, hR.2.1.1⟩
  have h10 := hI.1
  have h150 := hI.2.2.1
  have hg0 := inv_g hI (by omega)
  have hkk := hI.2.2.2.1
  have hh := hI.2.2.2.2.1
  have hna : mN (adM m p z) := ⟨by rw [ad_S hR.1]; show m.1 30 0 + 1 = _; rw [hn.1, nI_1], hn.2⟩
  have hns := mN_speak hna
  refine Con_of (by decide +kernel) (Nat.le_of_ble_eq_true rfl) ?_
  refine J_eq (lv' := [(0, .ref (ka S 30 0)), (1, .int p), (2, .int z)]) rfl rfl rfl ?_
  refine J_aload_n 0 rfl dX8_addStation_0 ?_
  refine J_iload_n 1 rfl dX8_addStation_1 ?_
  refine J_iconst (v := 0) (by decide) dX8_addStation_2 ?_
  refine J_sipush (v := 300) (by decide) dX8_addStation_3 ?_
  refine cv_8_91 (i := 0) (cells' := 0) (slots' := 0) dX8_addStation_6 (c_X8_in) ⟨by decide, by decide⟩ rfl rfl (by decide) (by decide) (Nat.le_of_ble_eq_true rfl) (fun _ _ r1 => ?_) (fun _ _ h => h.elim)
  obtain ⟨rfl, rfl⟩ := r1
  refine J_eq (st' := [.int (kb (decide (0 ≤ p) && decide (p ≤ 300))), .ref (ka S 30 0)]) rfl rfl rfl ?_
  refine J_topeq 1 (by rw [in_t hp]; rfl) ?_
  refine J_if_eq 22 (by decide) dX8_addStation_9 (fun c2 => ?_) (fun c2 => ?_)
  · exact absurd c2 (by decide)
  refine J_iload_n 2 rfl dX8_addStation_12 ?_
  refine J_iconst (v := 1) (by decide) dX8_addStation_13 ?_
  refine J_bipush (v := 100) (by decide) dX8_addStation_14 ?_
  refine cv_8_91 (i := 0) (cells' := 0) (slots' := 0) dX8_addStation_16 (c_X8_in) ⟨by decide, by decide⟩ rfl rfl (by decide) (by decide) (Nat.le_of_ble_eq_true rfl) (fun _ _ r3 => ?_) (fun _ _ h => h.elim)
  obtain ⟨rfl, rfl⟩ := r3
  refine J_eq (st' := [.int (kb (decide (1 ≤ z) && decide (z ≤ 100))), .ref (ka S 30 0)]) rfl rfl rfl ?_
  refine J_topeq 1 (by rw [in_t hr]; rfl) ?_
  refine J_if_ne 26 (by decide) dX8_addStation_19 (fun c4 => ?_) (fun c4 => ?_)
  rotate_left
  · exact absurd c4 (by decide)
  refine J_aload_n 0 rfl dX8_addStation_26 ?_
  refine gf_8_88 n30 dX8_addStation_27 ?_
  refine J_topeq (nI (mS m)) ((hM.1 30 0 rfl).trans (by exact hn.1)) ?_
  refine J_bipush (v := 10) (by decide) dX8_addStation_30 ?_
  refine J_icmp_ne 39 (by decide) dX8_addStation_32 (fun c5 => ?_) (fun c5 => ?_)
  rotate_left
  · exfalso
    have Nc5 : (mS m) = 10 := (nI_eqL (a := (mS m)) (b := 10) (by omega) (by omega)).mp c5
    omega
  have Nc5 : ¬ ((mS m) = 10) := fun q => c5 ((nI_eqL (a := (mS m)) (b := 10) (by omega) (by omega)).mpr q)
  refine J_iconst (v := 0) (by decide) dX8_addStation_39 ?_
  refine cv_8_113 (cells' := 0) (slots' := 0) dX8_addStation_40 (c_X8_failsE (x := 0)) n30 ⟨by decide, by decide⟩ rfl rfl (by decide) (by decide) (Nat.le_of_ble_eq_true rfl) (fun _ _ r6 => ?_) (fun _ _ h => h.elim)
  obtain ⟨rfl, rfl⟩ := r6
  refine J_eq (st' := [.int (kb (decide (0 < (0 : Int32))))]) rfl rfl rfl ?_
  have hM7 := MR_cd hM (v := 0)
  refine J_topeq 0 (by decide) ?_
  refine J_if_eq 48 (by decide) dX8_addStation_43 (fun c8 => ?_) (fun c8 => ?_)
  rotate_left
  · exact absurd (by decide) c8
  refine J_aload_n 0 rfl dX8_addStation_48 ?_
  refine gf_8_7 n30 dX8_addStation_49 ?_
  refine J_aload_n 0 rfl dX8_addStation_52 ?_
  refine gf_8_88 n30 dX8_addStation_53 ?_
  refine J_topeq (nI (mS m)) ((hM7.1 30 0 rfl).trans (by exact hn.1)) ?_
  refine J_iload_n 1 rfl dX8_addStation_56 ?_
  refine J_iast (I' := ku (ku I 30 0 31 0) 41 0 (mS m) p) (L' := L) (R' := R) (mS m) 0 n41 rfl rfl (vp_in_nI (by omega) (by decide)) (nI_toNat (by omega)) (by rw [ku_own]; rfl) (fun k' i' h => ⟨ku_row _ _ h, rfl, rfl⟩) dX8_addStation_57 ?_
  have hM9 := MR_ms (k := 41) (j := (mS m)) (v := p) hM7 rfl
  refine J_aload_n 0 rfl dX8_addStation_58 ?_
  refine gf_8_13 n30 dX8_addStation_59 ?_
  refine J_aload_n 0 rfl dX8_addStation_62 ?_
  refine gf_8_88 n30 dX8_addStation_63 ?_
  refine J_topeq (nI (mS m)) ((hM9.1 30 0 rfl).trans (by exact hn.1)) ?_
  refine J_iload_n 2 rfl dX8_addStation_66 ?_
  refine J_iast (I' := ku (ku (ku I 30 0 31 0) 41 0 (mS m) p) 42 0 (mS m) z) (L' := L) (R' := R) (mS m) 0 n42 rfl rfl (vp_in_nI (by omega) (by decide)) (nI_toNat (by omega)) (by rw [ku_own]; rfl) (fun k' i' h => ⟨ku_row _ _ h, rfl, rfl⟩) dX8_addStation_67 ?_
  have hM10 := MR_ms (k := 42) (j := (mS m)) (v := z) hM9 rfl
  refine J_aload_n 0 rfl dX8_addStation_68 ?_
  refine J_dup rfl dX8_addStation_69 ?_
  refine gf_8_88 n30 dX8_addStation_70 ?_
  refine J_topeq (m.1 30 0) ((hM10.1 30 0 rfl).trans (by rfl)) ?_
  refine J_iconst (v := 1) (by decide) dX8_addStation_73 ?_
  refine J_iadd dX8_addStation_74 ?_
  refine pf_8_88 n30 dX8_addStation_75 ?_
  have hM11 := MR_ms (k := 30) (j := 0) (v := ((m.1 30 0) + 1)) hM10 rfl
  refine J_aload_n 0 rfl dX8_addStation_78 ?_
  have hM12 : MR (adM m p z) 0 (ku (ku (ku (ku I 30 0 31 0) 41 0 (mS m) p) 42 0 (mS m) z) 30 0 0 ((m.1 30 0) + 1)) L := (by exact hM11)
  refine cv_8_117 (cells' := 0) (slots' := 0) dX8_addStation_79 (c_X8_letsSpeak (m := (adM m p z)) hM12 hna (inv_ad hR.1 hI h9 hp) (by omega)) n30 ⟨by decide, by decide⟩ rfl rfl (by decide) (by decide) (Nat.le_of_ble_eq_true rfl) (fun _ _ r14 => ?_) (fun _ _ h => h.elim)
  obtain ⟨rfl, I13, L13, rfl, hM13⟩ := r14
  refine J_eq (st' := []) rfl rfl rfl ?_
  refine J_aload_n 0 rfl dX8_addStation_82 ?_
  refine gf_8_88 n30 dX8_addStation_83 ?_
  refine J_topeq (nI (mS m + 1)) ((hM13.1 30 0 rfl).trans (by exact hns.1.trans (by rw [speak_S, ad_S hR.1]))) ?_
  refine J_iconst (v := 1) (by decide) dX8_addStation_86 ?_
  refine J_isub dX8_addStation_87 ?_
  refine J_topeq (nI (mS m + 1 - 1)) (by exact nI_subL (a := mS m + 1) (n := 1) (by omega)) ?_
  refine J_topeq (nI (mS m)) rfl ?_
  exact J_ireturn rfl (by first | rfl | assumption | simp [kb_nar]) dX8_addStation_88 (⟨rfl, _, _, rfl, hM13⟩) (by omega) (by omega)

set_option maxRecDepth 20000 in
set_option maxHeartbeats 1000000 in
theorem c_X8_addStation_y {cy : Nat → ClassId} {S : Nat → Nat → Nat} {I : kI} {L : kL} {R : kRf} {m : Mu} {cd : Int32} {p z : Int32} (hM : MR m cd I L) {Ic : kI} {Lc : kL} {Rc : kRf} {LPc : List Nat} {rc : Nat → Nat} {ln qu : List Nat} {lg B : Nat} (hR : Rel m Ic Lc Rc LPc rc ln qu lg) (hI : Inv m B) (hB : B + 90000 < 2 ^ 30) (hp : 0 ≤ p ∧ p ≤ 300) (hr : 1 ≤ z ∧ z ≤ 100) (h9 : ¬ mS m < 10) : Con yX8_addStation cX8_addStation 3 (some .int) 7 0 0 cy [.ref (ka S 30 0), .int p, .int z] (wm cy S I L R) (fun r w' => r = some (.int 0) ∧ MX cy S R m 2 w') kF := by
  have hn : mN m := ⟨hR.1.1, hR.2.1.1⟩
  have h10 := hI.1
  have h150 := hI.2.2.1
  have hg0 := inv_g hI (by omega)
  have hkk := hI.2.2.2.1
  have hh := hI.2.2.2.2.1
  refine Con_of (by decide +kernel) (Nat.le_of_ble_eq_true rfl) ?_
  refine J_eq (lv' := [(0, .ref (ka S 30 0)), (1, .int p), (2, .int z)]) rfl rfl rfl ?_
  refine J_aload_n 0 rfl dX8_addStation_0 ?_
  refine J_iload_n 1 rfl dX8_addStation_1 ?_
  refine J_iconst (v := 0) (by decide) dX8_addStation_2 ?_
  refine J_sipush (v := 300) (by decide) dX8_addStation_3 ?_
  refine cv_8_91 (i := 0) (cells' := 0) (slots' := 0) dX8_addStation_6 (c_X8_in) ⟨by decide, by decide⟩ rfl rfl (by decide) (by decide) (Nat.le_of_ble_eq_true rfl) (fun _ _ r1 => ?_) (fun _ _ h => h.elim)
  obtain ⟨rfl, rfl⟩ := r1
  refine J_eq (st' := [.int (kb (decide (0 ≤ p) && decide (p ≤ 300))), .ref (ka S 30 0)]) rfl rfl rfl ?_
  refine J_topeq 1 (by rw [in_t hp]; rfl) ?_
  refine J_if_eq 22 (by decide) dX8_addStation_9 (fun c2 => ?_) (fun c2 => ?_)
  · exact absurd c2 (by decide)
  refine J_iload_n 2 rfl dX8_addStation_12 ?_
  refine J_iconst (v := 1) (by decide) dX8_addStation_13 ?_
  refine J_bipush (v := 100) (by decide) dX8_addStation_14 ?_
  refine cv_8_91 (i := 0) (cells' := 0) (slots' := 0) dX8_addStation_16 (c_X8_in) ⟨by decide, by decide⟩ rfl rfl (by decide) (by decide) (Nat.le_of_ble_eq_true rfl) (fun _ _ r3 => ?_) (fun _ _ h => h.elim)
  obtain ⟨rfl, rfl⟩ := r3
  refine J_eq (st' := [.int (kb (decide (1 ≤ z) && decide (z ≤ 100))), .ref (ka S 30 0)]) rfl rfl rfl ?_
  refine J_topeq 1 (by rw [in_t hr]; rfl) ?_
  refine J_if_ne 26 (by decide) dX8_addStation_19 (fun c4 => ?_) (fun c4 => ?_)
  rotate_left
  · exact absurd c4 (by decide)
  refine J_aload_n 0 rfl dX8_addStation_26 ?_
  refine gf_8_88 n30 dX8_addStation_27 ?_
  refine J_topeq (nI (mS m)) ((hM.1 30 0 rfl).trans (by exact hn.1)) ?_
  refine J_bipush (v := 10) (by decide) dX8_addStation_30 ?_
  refine J_icmp_ne 39 (by decide) dX8_addStation_32 (fun c5 => ?_) (fun c5 => ?_)
  · exfalso
    have Nc5 : ¬ ((mS m) = 10) := fun q => c5 ((nI_eqL (a := (mS m)) (b := 10) (by omega) (by omega)).mpr q)
    omega
  have Nc5 : (mS m) = 10 := (nI_eqL (a := (mS m)) (b := 10) (by omega) (by omega)).mp c5
  refine J_iconst (v := 2) (by decide) dX8_addStation_35 ?_
  refine J_goto 40 (by decide) dX8_addStation_36 ?_
  refine cv_8_113 (cells' := 0) (slots' := 0) dX8_addStation_40 (c_X8_failsE (x := 2)) n30 ⟨by decide, by decide⟩ rfl rfl (by decide) (by decide) (Nat.le_of_ble_eq_true rfl) (fun _ _ r6 => ?_) (fun _ _ h => h.elim)
  obtain ⟨rfl, rfl⟩ := r6
  refine J_eq (st' := [.int (kb (decide (0 < (2 : Int32))))]) rfl rfl rfl ?_
  have hM7 := MR_cd hM (v := 2)
  refine J_topeq 1 (by decide) ?_
  refine J_if_eq 48 (by decide) dX8_addStation_43 (fun c8 => ?_) (fun c8 => ?_)
  · exact absurd c8 (by decide)
  refine J_iconst (v := 0) (by decide) dX8_addStation_46 ?_
  exact J_ireturn rfl (by first | rfl | assumption | simp [kb_nar]) dX8_addStation_47 (⟨rfl, _, _, rfl, hM7⟩) (by omega) (by omega)

set_option maxRecDepth 20000 in
set_option maxHeartbeats 1000000 in
theorem c_X8_addStation_x {cy : Nat → ClassId} {S : Nat → Nat → Nat} {I : kI} {L : kL} {R : kRf} {m : Mu} {cd : Int32} {p z : Int32} (hM : MR m cd I L) {Ic : kI} {Lc : kL} {Rc : kRf} {LPc : List Nat} {rc : Nat → Nat} {ln qu : List Nat} {lg B : Nat} (hR : Rel m Ic Lc Rc LPc rc ln qu lg) (hI : Inv m B) (hB : B + 90000 < 2 ^ 30) (hp : ¬ (0 ≤ p ∧ p ≤ 300)) : Con yX8_addStation cX8_addStation 3 (some .int) 7 0 0 cy [.ref (ka S 30 0), .int p, .int z] (wm cy S I L R) (fun r w' => r = some (.int 0) ∧ MX cy S R m 1 w') kF := by
  have hn : mN m := ⟨hR.1.1, hR.2.1.1⟩
  have h10 := hI.1
  have h150 := hI.2.2.1
  have hg0 := inv_g hI (by omega)
  have hkk := hI.2.2.2.1
  have hh := hI.2.2.2.2.1
  refine Con_of (by decide +kernel) (Nat.le_of_ble_eq_true rfl) ?_
  refine J_eq (lv' := [(0, .ref (ka S 30 0)), (1, .int p), (2, .int z)]) rfl rfl rfl ?_
  refine J_aload_n 0 rfl dX8_addStation_0 ?_
  refine J_iload_n 1 rfl dX8_addStation_1 ?_
  refine J_iconst (v := 0) (by decide) dX8_addStation_2 ?_
  refine J_sipush (v := 300) (by decide) dX8_addStation_3 ?_
  refine cv_8_91 (i := 0) (cells' := 0) (slots' := 0) dX8_addStation_6 (c_X8_in) ⟨by decide, by decide⟩ rfl rfl (by decide) (by decide) (Nat.le_of_ble_eq_true rfl) (fun _ _ r1 => ?_) (fun _ _ h => h.elim)
  obtain ⟨rfl, rfl⟩ := r1
  refine J_eq (st' := [.int (kb (decide (0 ≤ p) && decide (p ≤ 300))), .ref (ka S 30 0)]) rfl rfl rfl ?_
  refine J_topeq 0 (by rw [in_f hp]; rfl) ?_
  refine J_if_eq 22 (by decide) dX8_addStation_9 (fun c2 => ?_) (fun c2 => ?_)
  rotate_left
  · exact absurd (by decide) c2
  refine J_iconst (v := 1) (by decide) dX8_addStation_22 ?_
  refine J_goto 40 (by decide) dX8_addStation_23 ?_
  refine cv_8_113 (cells' := 0) (slots' := 0) dX8_addStation_40 (c_X8_failsE (x := 1)) n30 ⟨by decide, by decide⟩ rfl rfl (by decide) (by decide) (Nat.le_of_ble_eq_true rfl) (fun _ _ r3 => ?_) (fun _ _ h => h.elim)
  obtain ⟨rfl, rfl⟩ := r3
  refine J_eq (st' := [.int (kb (decide (0 < (1 : Int32))))]) rfl rfl rfl ?_
  have hM4 := MR_cd hM (v := 1)
  refine J_topeq 1 (by decide) ?_
  refine J_if_eq 48 (by decide) dX8_addStation_43 (fun c5 => ?_) (fun c5 => ?_)
  · exact absurd c5 (by decide)
  refine J_iconst (v := 0) (by decide) dX8_addStation_46 ?_
  exact J_ireturn rfl (by first | rfl | assumption | simp [kb_nar]) dX8_addStation_47 (⟨rfl, _, _, rfl, hM4⟩) (by omega) (by omega)

set_option maxRecDepth 20000 in
set_option maxHeartbeats 1000000 in
theorem c_X8_addStation_z {cy : Nat → ClassId} {S : Nat → Nat → Nat} {I : kI} {L : kL} {R : kRf} {m : Mu} {cd : Int32} {p z : Int32} (hM : MR m cd I L) {Ic : kI} {Lc : kL} {Rc : kRf} {LPc : List Nat} {rc : Nat → Nat} {ln qu : List Nat} {lg B : Nat} (hR : Rel m Ic Lc Rc LPc rc ln qu lg) (hI : Inv m B) (hB : B + 90000 < 2 ^ 30) (hp : 0 ≤ p ∧ p ≤ 300) (hr : ¬ (1 ≤ z ∧ z ≤ 100)) : Con yX8_addStation cX8_addStation 3 (some .int) 7 0 0 cy [.ref (ka S 30 0), .int p, .int z] (wm cy S I L R) (fun r w' => r = some (.int 0) ∧ MX cy S R m 1 w') kF := by
  have hn : mN m := ⟨hR.1.1, hR.2.1.1⟩
  have h10 := hI.1
  have h150 := hI.2.2.1
  have hg0 := inv_g hI (by omega)
  have hkk := hI.2.2.2.1
  have hh := hI.2.2.2.2.1
  refine Con_of (by decide +kernel) (Nat.le_of_ble_eq_true rfl) ?_
  refine J_eq (lv' := [(0, .ref (ka S 30 0)), (1, .int p), (2, .int z)]) rfl rfl rfl ?_
  refine J_aload_n 0 rfl dX8_addStation_0 ?_
  refine J_iload_n 1 rfl dX8_addStation_1 ?_
  refine J_iconst (v := 0) (by decide) dX8_addStation_2 ?_
  refine J_sipush (v := 300) (by decide) dX8_addStation_3 ?_
  refine cv_8_91 (i := 0) (cells' := 0) (slots' := 0) dX8_addStation_6 (c_X8_in) ⟨by decide, by decide⟩ rfl rfl (by decide) (by decide) (Nat.le_of_ble_eq_true rfl) (fun _ _ r1 => ?_) (fun _ _ h => h.elim)
  obtain ⟨rfl, rfl⟩ := r1
  refine J_eq (st' := [.int (kb (decide (0 ≤ p) && decide (p ≤ 300))), .ref (ka S 30 0)]) rfl rfl rfl ?_
  refine J_topeq 1 (by rw [in_t hp]; rfl) ?_
  refine J_if_eq 22 (by decide) dX8_addStation_9 (fun c2 => ?_) (fun c2 => ?_)
  · exact absurd c2 (by decide)
  refine J_iload_n 2 rfl dX8_addStation_12 ?_
  refine J_iconst (v := 1) (by decide) dX8_addStation_13 ?_
  refine J_bipush (v := 100) (by decide) dX8_addStation_14 ?_
  refine cv_8_91 (i := 0) (cells' := 0) (slots' := 0) dX8_addStation_16 (c_X8_in) ⟨by decide, by decide⟩ rfl rfl (by decide) (by decide) (Nat.le_of_ble_eq_true rfl) (fun _ _ r3 => ?_) (fun _ _ h => h.elim)
  obtain ⟨rfl, rfl⟩ := r3
  refine J_eq (st' := [.int (kb (decide (1 ≤ z) && decide (z ≤ 100))), .ref (ka S 30 0)]) rfl rfl rfl ?_
  refine J_topeq 0 (by rw [in_f hr]; rfl) ?_
  refine J_if_ne 26 (by decide) dX8_addStation_19 (fun c4 => ?_) (fun c4 => ?_)
  · exact absurd (by decide) c4
  refine J_iconst (v := 1) (by decide) dX8_addStation_22 ?_
  refine J_goto 40 (by decide) dX8_addStation_23 ?_
  refine cv_8_113 (cells' := 0) (slots' := 0) dX8_addStation_40 (c_X8_failsE (x := 1)) n30 ⟨by decide, by decide⟩ rfl rfl (by decide) (by decide) (Nat.le_of_ble_eq_true rfl) (fun _ _ r5 => ?_) (fun _ _ h => h.elim)
  obtain ⟨rfl, rfl⟩ := r5
  refine J_eq (st' := [.int (kb (decide (0 < (1 : Int32))))]) rfl rfl rfl ?_
  have hM6 := MR_cd hM (v := 1)
  refine J_topeq 1 (by decide) ?_
  refine J_if_eq 48 (by decide) dX8_addStation_43 (fun c7 => ?_) (fun c7 => ?_)
  · exact absurd c7 (by decide)
  refine J_iconst (v := 0) (by decide) dX8_addStation_46 ?_
  exact J_ireturn rfl (by first | rfl | assumption | simp [kb_nar]) dX8_addStation_47 (⟨rfl, _, _, rfl, hM6⟩) (by omega) (by omega)

set_option maxRecDepth 20000 in
set_option maxHeartbeats 1000000 in
theorem c_X8_setOn_1 {cy : Nat → ClassId} {S : Nat → Nat → Nat} {I : kI} {L : kL} {R : kRf} {m : Mu} {cd : Int32} {s : Nat} (hM : MR m cd I L) {Ic : kI} {Lc : kL} {Rc : kRf} {LPc : List Nat} {rc : Nat → Nat} {ln qu : List Nat} {lg B : Nat} (hR : Rel m Ic Lc Rc LPc rc ln qu lg) (hI : Inv m B) (hB : B + 90000 < 2 ^ 30) (hs : s < mS m) : Con yX8_setOn cX8_setOn 4 (some .boolean) 7 0 0 cy [.ref (ka S 30 0), .int (nI s), .int 1] (wm cy S I L R) (fun r w' => r = some (.int (if m.1 43 s = 0 then 1 else 0)) ∧ MX cy S R (mSpeak (soM m s true)) 0 w') kF := by
  have hn : mN m := ⟨hR.1.1, hR.2.1.1⟩
  have h10 := hI.1
  have h150 := hI.2.2.1
  have hg0 := inv_g hI (by omega)
  have hkk := hI.2.2.2.1
  have hh := hI.2.2.2.2.1
  refine Con_of (by decide +kernel) (Nat.le_of_ble_eq_true rfl) ?_
  refine J_eq (lv' := [(0, .ref (ka S 30 0)), (1, .int (nI s)), (2, .int 1)]) rfl rfl rfl ?_
  refine J_aload_n 0 rfl dX8_setOn_0 ?_
  refine J_aload_n 0 rfl dX8_setOn_1 ?_
  refine J_iload_n 1 rfl dX8_setOn_2 ?_
  refine cv_8_120 (cells' := 0) (slots' := 0) dX8_setOn_3 (c_X8_isNone hM hn) n30 ⟨by decide, by decide⟩ rfl rfl (by decide) (by decide) (Nat.le_of_ble_eq_true rfl) (fun _ _ r1 => ?_) (fun _ _ h => h.elim)
  obtain ⟨rfl, rfl⟩ := r1
  refine J_eq (st' := [.int (kb (!(decide (0 ≤ (nI s)) && decide ((nI s) ≤ nI (mS m) - 1)))), .ref (ka S 30 0)]) rfl rfl rfl ?_
  refine J_topeq 0 (by rw [none_f (n := mS m) (by omega) (by assumption)]; rfl) ?_
  refine J_if_eq 13 (by decide) dX8_setOn_6 (fun c2 => ?_) (fun c2 => ?_)
  rotate_left
  · exact absurd (by decide) c2
  refine J_iconst (v := 0) (by decide) dX8_setOn_13 ?_
  refine cv_8_113 (cells' := 0) (slots' := 0) dX8_setOn_14 (c_X8_failsE (x := 0)) n30 ⟨by decide, by decide⟩ rfl rfl (by decide) (by decide) (Nat.le_of_ble_eq_true rfl) (fun _ _ r3 => ?_) (fun _ _ h => h.elim)
  obtain ⟨rfl, rfl⟩ := r3
  refine J_eq (st' := [.int (kb (decide (0 < (0 : Int32))))]) rfl rfl rfl ?_
  have hM4 := MR_cd hM (v := 0)
  refine J_topeq 0 (by decide) ?_
  refine J_if_eq 22 (by decide) dX8_setOn_17 (fun c5 => ?_) (fun c5 => ?_)
  rotate_left
  · exact absurd (by decide) c5
  refine J_aload_n 0 rfl dX8_setOn_22 ?_
  refine gf_8_16 n30 dX8_setOn_23 ?_
  refine J_iload_n 1 rfl dX8_setOn_26 ?_
  refine J_zald s 2 n43 rfl rfl (vp_in_nI (by omega) (by decide)) (nI_toNat (by omega)) dX8_setOn_27 ?_
  refine J_topeq (m.1 43 s) (hM4.1 43 s rfl) ?_
  refine J_if_ne 35 (by decide) dX8_setOn_28 (fun c6 => ?_) (fun c6 => ?_)
  · skip
    refine J_iconst (v := 0) (by decide) dX8_setOn_35 ?_
    refine J_istore_n (lv' := [(0, .ref (ka S 30 0)), (1, .int (nI s)), (2, .int 1), (3, .int 0)]) (by decide) rfl dX8_setOn_36 ?_
    refine J_aload_n 0 rfl dX8_setOn_37 ?_
    refine gf_8_16 n30 dX8_setOn_38 ?_
    refine J_iload_n 1 rfl dX8_setOn_41 ?_
    refine J_iload_n 2 rfl dX8_setOn_42 ?_
    refine J_if_ne 50 (by decide) dX8_setOn_43 (fun c7 => ?_) (fun c7 => ?_)
    rotate_left
    · exact absurd c7 (by decide)
    refine J_iconst (v := 0) (by decide) dX8_setOn_50 ?_
    refine J_zast (I' := ku (ku I 30 0 31 0) 43 0 s 0) (L' := L) (R' := R) s 2 n43 rfl rfl (vp_in_nI (by omega) (by decide)) (nI_toNat (by omega)) (by rw [ku_own]; rfl) (fun k' i' h => ⟨ku_row _ _ h, rfl, rfl⟩) dX8_setOn_51 ?_
    have hM8 := MR_ms (k := 43) (j := s) (v := 0) hM4 rfl
    have hM9 : MR (soM m s true) 0 (ku (ku I 30 0 31 0) 43 0 s 0) L := (by exact hM8)
    refine J_iload_n 2 rfl dX8_setOn_52 ?_
    refine J_if_ne 73 (by decide) dX8_setOn_53 (fun c10 => ?_) (fun c10 => ?_)
    rotate_left
    · exact absurd c10 (by decide)
    refine J_aload_n 0 rfl dX8_setOn_73 ?_
    refine cv_8_117 (cells' := 0) (slots' := 0) dX8_setOn_74 (c_X8_letsSpeak (m := (soM m s true)) hM9 hn (inv_so hI hs) (by omega)) n30 ⟨by decide, by decide⟩ rfl rfl (by decide) (by decide) (Nat.le_of_ble_eq_true rfl) (fun _ _ r12 => ?_) (fun _ _ h => h.elim)
    obtain ⟨rfl, I11, L11, rfl, hM11⟩ := r12
    refine J_eq (st' := []) rfl rfl rfl ?_
    refine J_iload_n 3 rfl dX8_setOn_77 ?_
    exact J_ireturn rfl (by first | rfl | assumption | simp [kb_nar]) dX8_setOn_78 (⟨by first | (rw [if_pos (by assumption)]) | (rw [if_neg (by assumption)]), _, _, rfl, hM11⟩) (by omega) (by omega)
  · skip
    refine J_iconst (v := 1) (by decide) dX8_setOn_31 ?_
    refine J_goto 36 (by decide) dX8_setOn_32 ?_
    refine J_istore_n (lv' := [(0, .ref (ka S 30 0)), (1, .int (nI s)), (2, .int 1), (3, .int 1)]) (by decide) rfl dX8_setOn_36 ?_
    refine J_aload_n 0 rfl dX8_setOn_37 ?_
    refine gf_8_16 n30 dX8_setOn_38 ?_
    refine J_iload_n 1 rfl dX8_setOn_41 ?_
    refine J_iload_n 2 rfl dX8_setOn_42 ?_
    refine J_if_ne 50 (by decide) dX8_setOn_43 (fun c13 => ?_) (fun c13 => ?_)
    rotate_left
    · exact absurd c13 (by decide)
    refine J_iconst (v := 0) (by decide) dX8_setOn_50 ?_
    refine J_zast (I' := ku (ku I 30 0 31 0) 43 0 s 0) (L' := L) (R' := R) s 2 n43 rfl rfl (vp_in_nI (by omega) (by decide)) (nI_toNat (by omega)) (by rw [ku_own]; rfl) (fun k' i' h => ⟨ku_row _ _ h, rfl, rfl⟩) dX8_setOn_51 ?_
    have hM14 := MR_ms (k := 43) (j := s) (v := 0) hM4 rfl
    have hM15 : MR (soM m s true) 0 (ku (ku I 30 0 31 0) 43 0 s 0) L := (by exact hM14)
    refine J_iload_n 2 rfl dX8_setOn_52 ?_
    refine J_if_ne 73 (by decide) dX8_setOn_53 (fun c16 => ?_) (fun c16 => ?_)
    rotate_left
    · exact absurd c16 (by decide)
    refine J_aload_n 0 rfl dX8_setOn_73 ?_
    refine cv_8_117 (cells' := 0) (slots' := 0) dX8_setOn_74 (c_X8_letsSpeak (m := (soM m s true)) hM15 hn (inv_so hI hs) (by omega)) n30 ⟨by decide, by decide⟩ rfl rfl (by decide) (by decide) (Nat.le_of_ble_eq_true rfl) (fun _ _ r18 => ?_) (fun _ _ h => h.elim)
    obtain ⟨rfl, I17, L17, rfl, hM17⟩ := r18
    refine J_eq (st' := []) rfl rfl rfl ?_
    refine J_iload_n 3 rfl dX8_setOn_77 ?_
    exact J_ireturn rfl (by first | rfl | assumption | simp [kb_nar]) dX8_setOn_78 (⟨by first | (rw [if_pos (by assumption)]) | (rw [if_neg (by assumption)]), _, _, rfl, hM17⟩) (by omega) (by omega)

set_option maxRecDepth 20000 in
set_option maxHeartbeats 1000000 in
theorem c_X8_setOn_0n {cy : Nat → ClassId} {S : Nat → Nat → Nat} {I : kI} {L : kL} {R : kRf} {m : Mu} {cd : Int32} {s : Nat} (hM : MR m cd I L) {Ic : kI} {Lc : kL} {Rc : kRf} {LPc : List Nat} {rc : Nat → Nat} {ln qu : List Nat} {lg B : Nat} (hR : Rel m Ic Lc Rc LPc rc ln qu lg) (hI : Inv m B) (hB : B + 90000 < 2 ^ 30) (hs : s < mS m) (hm : mHold m (nI s) = none) : Con yX8_setOn cX8_setOn 4 (some .boolean) 7 0 0 cy [.ref (ka S 30 0), .int (nI s), .int 0] (wm cy S I L R) (fun r w' => r = some (.int (if m.1 43 s = 0 then 1 else 0)) ∧ MX cy S R (mSpeak (soM m s false)) 0 w') kF := by
  have hn : mN m := ⟨hR.1.1, hR.2.1.1⟩
  have h10 := hI.1
  have h150 := hI.2.2.1
  have hg0 := inv_g hI (by omega)
  have hkk := hI.2.2.2.1
  have hh := hI.2.2.2.2.1
  refine Con_of (by decide +kernel) (Nat.le_of_ble_eq_true rfl) ?_
  refine J_eq (lv' := [(0, .ref (ka S 30 0)), (1, .int (nI s)), (2, .int 0)]) rfl rfl rfl ?_
  refine J_aload_n 0 rfl dX8_setOn_0 ?_
  refine J_aload_n 0 rfl dX8_setOn_1 ?_
  refine J_iload_n 1 rfl dX8_setOn_2 ?_
  refine cv_8_120 (cells' := 0) (slots' := 0) dX8_setOn_3 (c_X8_isNone hM hn) n30 ⟨by decide, by decide⟩ rfl rfl (by decide) (by decide) (Nat.le_of_ble_eq_true rfl) (fun _ _ r1 => ?_) (fun _ _ h => h.elim)
  obtain ⟨rfl, rfl⟩ := r1
  refine J_eq (st' := [.int (kb (!(decide (0 ≤ (nI s)) && decide ((nI s) ≤ nI (mS m) - 1)))), .ref (ka S 30 0)]) rfl rfl rfl ?_
  refine J_topeq 0 (by rw [none_f (n := mS m) (by omega) (by assumption)]; rfl) ?_
  refine J_if_eq 13 (by decide) dX8_setOn_6 (fun c2 => ?_) (fun c2 => ?_)
  rotate_left
  · exact absurd (by decide) c2
  refine J_iconst (v := 0) (by decide) dX8_setOn_13 ?_
  refine cv_8_113 (cells' := 0) (slots' := 0) dX8_setOn_14 (c_X8_failsE (x := 0)) n30 ⟨by decide, by decide⟩ rfl rfl (by decide) (by decide) (Nat.le_of_ble_eq_true rfl) (fun _ _ r3 => ?_) (fun _ _ h => h.elim)
  obtain ⟨rfl, rfl⟩ := r3
  refine J_eq (st' := [.int (kb (decide (0 < (0 : Int32))))]) rfl rfl rfl ?_
  have hM4 := MR_cd hM (v := 0)
  refine J_topeq 0 (by decide) ?_
  refine J_if_eq 22 (by decide) dX8_setOn_17 (fun c5 => ?_) (fun c5 => ?_)
  rotate_left
  · exact absurd (by decide) c5
  refine J_aload_n 0 rfl dX8_setOn_22 ?_
  refine gf_8_16 n30 dX8_setOn_23 ?_
  refine J_iload_n 1 rfl dX8_setOn_26 ?_
  refine J_zald s 2 n43 rfl rfl (vp_in_nI (by omega) (by decide)) (nI_toNat (by omega)) dX8_setOn_27 ?_
  refine J_topeq (m.1 43 s) (hM4.1 43 s rfl) ?_
  refine J_if_ne 35 (by decide) dX8_setOn_28 (fun c6 => ?_) (fun c6 => ?_)
  · skip
    refine J_iconst (v := 0) (by decide) dX8_setOn_35 ?_
    refine J_istore_n (lv' := [(0, .ref (ka S 30 0)), (1, .int (nI s)), (2, .int 0), (3, .int 0)]) (by decide) rfl dX8_setOn_36 ?_
    refine J_aload_n 0 rfl dX8_setOn_37 ?_
    refine gf_8_16 n30 dX8_setOn_38 ?_
    refine J_iload_n 1 rfl dX8_setOn_41 ?_
    refine J_iload_n 2 rfl dX8_setOn_42 ?_
    refine J_if_ne 50 (by decide) dX8_setOn_43 (fun c7 => ?_) (fun c7 => ?_)
    · exact absurd (by decide) c7
    refine J_iconst (v := 1) (by decide) dX8_setOn_46 ?_
    refine J_goto 51 (by decide) dX8_setOn_47 ?_
    refine J_zast (I' := ku (ku I 30 0 31 0) 43 0 s 1) (L' := L) (R' := R) s 2 n43 rfl rfl (vp_in_nI (by omega) (by decide)) (nI_toNat (by omega)) (by rw [ku_own]; rfl) (fun k' i' h => ⟨ku_row _ _ h, rfl, rfl⟩) dX8_setOn_51 ?_
    have hM8 := MR_ms (k := 43) (j := s) (v := 1) hM4 rfl
    have hM9 : MR (soM m s false) 0 (ku (ku I 30 0 31 0) 43 0 s 1) L := (by exact hM8)
    refine J_iload_n 2 rfl dX8_setOn_52 ?_
    refine J_if_ne 73 (by decide) dX8_setOn_53 (fun c10 => ?_) (fun c10 => ?_)
    · exact absurd (by decide) c10
    refine J_aload_n 0 rfl dX8_setOn_56 ?_
    refine J_iload_n 1 rfl dX8_setOn_57 ?_
    refine cv_8_123 (cells' := 0) (slots' := 0) dX8_setOn_58 (c_X8_busy (m := soM m s false) (s := s) hM9 hn h150) n30 ⟨by decide, by decide⟩ rfl rfl (by decide) (by decide) (Nat.le_of_ble_eq_true rfl) (fun _ _ r11 => ?_) (fun _ _ h => h.elim)
    obtain ⟨rfl, rfl⟩ := r11
    refine J_eq (st' := [.int (oI (mHold m (nI s)))]) rfl rfl rfl ?_
    refine J_topeq (-1) (by rw [hm]; rfl) ?_
    refine J_if_lt 73 (by decide) dX8_setOn_61 (fun c12 => ?_) (fun c12 => ?_)
    rotate_left
    · exact absurd (by decide) c12
    refine J_aload_n 0 rfl dX8_setOn_73 ?_
    refine cv_8_117 (cells' := 0) (slots' := 0) dX8_setOn_74 (c_X8_letsSpeak (m := (soM m s false)) hM9 hn (inv_so hI hs) (by omega)) n30 ⟨by decide, by decide⟩ rfl rfl (by decide) (by decide) (Nat.le_of_ble_eq_true rfl) (fun _ _ r14 => ?_) (fun _ _ h => h.elim)
    obtain ⟨rfl, I13, L13, rfl, hM13⟩ := r14
    refine J_eq (st' := []) rfl rfl rfl ?_
    refine J_iload_n 3 rfl dX8_setOn_77 ?_
    exact J_ireturn rfl (by first | rfl | assumption | simp [kb_nar]) dX8_setOn_78 (⟨by first | (rw [if_pos (by assumption)]) | (rw [if_neg (by assumption)]), _, _, rfl, hM13⟩) (by omega) (by omega)
  · skip
    refine J_iconst (v := 1) (by decide) dX8_setOn_31 ?_
    refine J_goto 36 (by decide) dX8_setOn_32 ?_
    refine J_istore_n (lv' := [(0, .ref (ka S 30 0)), (1, .int (nI s)), (2, .int 0), (3, .int 1)]) (by decide) rfl dX8_setOn_36 ?_
    refine J_aload_n 0 rfl dX8_setOn_37 ?_
    refine gf_8_16 n30 dX8_setOn_38 ?_
    refine J_iload_n 1 rfl dX8_setOn_41 ?_
    refine J_iload_n 2 rfl dX8_setOn_42 ?_
    refine J_if_ne 50 (by decide) dX8_setOn_43 (fun c15 => ?_) (fun c15 => ?_)
    · exact absurd (by decide) c15
    refine J_iconst (v := 1) (by decide) dX8_setOn_46 ?_
    refine J_goto 51 (by decide) dX8_setOn_47 ?_
    refine J_zast (I' := ku (ku I 30 0 31 0) 43 0 s 1) (L' := L) (R' := R) s 2 n43 rfl rfl (vp_in_nI (by omega) (by decide)) (nI_toNat (by omega)) (by rw [ku_own]; rfl) (fun k' i' h => ⟨ku_row _ _ h, rfl, rfl⟩) dX8_setOn_51 ?_
    have hM16 := MR_ms (k := 43) (j := s) (v := 1) hM4 rfl
    have hM17 : MR (soM m s false) 0 (ku (ku I 30 0 31 0) 43 0 s 1) L := (by exact hM16)
    refine J_iload_n 2 rfl dX8_setOn_52 ?_
    refine J_if_ne 73 (by decide) dX8_setOn_53 (fun c18 => ?_) (fun c18 => ?_)
    · exact absurd (by decide) c18
    refine J_aload_n 0 rfl dX8_setOn_56 ?_
    refine J_iload_n 1 rfl dX8_setOn_57 ?_
    refine cv_8_123 (cells' := 0) (slots' := 0) dX8_setOn_58 (c_X8_busy (m := soM m s false) (s := s) hM17 hn h150) n30 ⟨by decide, by decide⟩ rfl rfl (by decide) (by decide) (Nat.le_of_ble_eq_true rfl) (fun _ _ r19 => ?_) (fun _ _ h => h.elim)
    obtain ⟨rfl, rfl⟩ := r19
    refine J_eq (st' := [.int (oI (mHold m (nI s)))]) rfl rfl rfl ?_
    refine J_topeq (-1) (by rw [hm]; rfl) ?_
    refine J_if_lt 73 (by decide) dX8_setOn_61 (fun c20 => ?_) (fun c20 => ?_)
    rotate_left
    · exact absurd (by decide) c20
    refine J_aload_n 0 rfl dX8_setOn_73 ?_
    refine cv_8_117 (cells' := 0) (slots' := 0) dX8_setOn_74 (c_X8_letsSpeak (m := (soM m s false)) hM17 hn (inv_so hI hs) (by omega)) n30 ⟨by decide, by decide⟩ rfl rfl (by decide) (by decide) (Nat.le_of_ble_eq_true rfl) (fun _ _ r22 => ?_) (fun _ _ h => h.elim)
    obtain ⟨rfl, I21, L21, rfl, hM21⟩ := r22
    refine J_eq (st' := []) rfl rfl rfl ?_
    refine J_iload_n 3 rfl dX8_setOn_77 ?_
    exact J_ireturn rfl (by first | rfl | assumption | simp [kb_nar]) dX8_setOn_78 (⟨by first | (rw [if_pos (by assumption)]) | (rw [if_neg (by assumption)]), _, _, rfl, hM21⟩) (by omega) (by omega)

set_option maxRecDepth 20000 in
set_option maxHeartbeats 1000000 in
theorem c_X8_setOn_0c {cy : Nat → ClassId} {S : Nat → Nat → Nat} {I : kI} {L : kL} {R : kRf} {m : Mu} {cd : Int32} {s c : Nat} (hM : MR m cd I L) {Ic : kI} {Lc : kL} {Rc : kRf} {LPc : List Nat} {rc : Nat → Nat} {ln qu : List Nat} {lg B : Nat} (hR : Rel m Ic Lc Rc LPc rc ln qu lg) (hI : Inv m B) (hB : B + 90000 < 2 ^ 30) (hs : s < mS m) (hm : mHold m (nI s) = some c) : Con yX8_setOn cX8_setOn 4 (some .boolean) 7 0 0 cy [.ref (ka S 30 0), .int (nI s), .int 0] (wm cy S I L R) (fun r w' => r = some (.int (if m.1 43 s = 0 then 1 else 0)) ∧ MX cy S R (mSpeak (mInt (soM m s false) c)) 0 w') kF := by
  have hn : mN m := ⟨hR.1.1, hR.2.1.1⟩
  have h10 := hI.1
  have h150 := hI.2.2.1
  have hg0 := inv_g hI (by omega)
  have hkk := hI.2.2.2.1
  have hh := hI.2.2.2.2.1
  obtain ⟨hc, hsc, -⟩ := (mHold_iff hh (by omega)).mp hm
  have hI2 := inv_int (inv_so (b := false) hI hs) hc hsc
  refine Con_of (by decide +kernel) (Nat.le_of_ble_eq_true rfl) ?_
  refine J_eq (lv' := [(0, .ref (ka S 30 0)), (1, .int (nI s)), (2, .int 0)]) rfl rfl rfl ?_
  refine J_aload_n 0 rfl dX8_setOn_0 ?_
  refine J_aload_n 0 rfl dX8_setOn_1 ?_
  refine J_iload_n 1 rfl dX8_setOn_2 ?_
  refine cv_8_120 (cells' := 0) (slots' := 0) dX8_setOn_3 (c_X8_isNone hM hn) n30 ⟨by decide, by decide⟩ rfl rfl (by decide) (by decide) (Nat.le_of_ble_eq_true rfl) (fun _ _ r1 => ?_) (fun _ _ h => h.elim)
  obtain ⟨rfl, rfl⟩ := r1
  refine J_eq (st' := [.int (kb (!(decide (0 ≤ (nI s)) && decide ((nI s) ≤ nI (mS m) - 1)))), .ref (ka S 30 0)]) rfl rfl rfl ?_
  refine J_topeq 0 (by rw [none_f (n := mS m) (by omega) (by assumption)]; rfl) ?_
  refine J_if_eq 13 (by decide) dX8_setOn_6 (fun c2 => ?_) (fun c2 => ?_)
  rotate_left
  · exact absurd (by decide) c2
  refine J_iconst (v := 0) (by decide) dX8_setOn_13 ?_
  refine cv_8_113 (cells' := 0) (slots' := 0) dX8_setOn_14 (c_X8_failsE (x := 0)) n30 ⟨by decide, by decide⟩ rfl rfl (by decide) (by decide) (Nat.le_of_ble_eq_true rfl) (fun _ _ r3 => ?_) (fun _ _ h => h.elim)
  obtain ⟨rfl, rfl⟩ := r3
  refine J_eq (st' := [.int (kb (decide (0 < (0 : Int32))))]) rfl rfl rfl ?_
  have hM4 := MR_cd hM (v := 0)
  refine J_topeq 0 (by decide) ?_
  refine J_if_eq 22 (by decide) dX8_setOn_17 (fun c5 => ?_) (fun c5 => ?_)
  rotate_left
  · exact absurd (by decide) c5
  refine J_aload_n 0 rfl dX8_setOn_22 ?_
  refine gf_8_16 n30 dX8_setOn_23 ?_
  refine J_iload_n 1 rfl dX8_setOn_26 ?_
  refine J_zald s 2 n43 rfl rfl (vp_in_nI (by omega) (by decide)) (nI_toNat (by omega)) dX8_setOn_27 ?_
  refine J_topeq (m.1 43 s) (hM4.1 43 s rfl) ?_
  refine J_if_ne 35 (by decide) dX8_setOn_28 (fun c6 => ?_) (fun c6 => ?_)
  · skip
    refine J_iconst (v := 0) (by decide) dX8_setOn_35 ?_
    refine J_istore_n (lv' := [(0, .ref (ka S 30 0)), (1, .int (nI s)), (2, .int 0), (3, .int 0)]) (by decide) rfl dX8_setOn_36 ?_
    refine J_aload_n 0 rfl dX8_setOn_37 ?_
    refine gf_8_16 n30 dX8_setOn_38 ?_
    refine J_iload_n 1 rfl dX8_setOn_41 ?_
    refine J_iload_n 2 rfl dX8_setOn_42 ?_
    refine J_if_ne 50 (by decide) dX8_setOn_43 (fun c7 => ?_) (fun c7 => ?_)
    · exact absurd (by decide) c7
    refine J_iconst (v := 1) (by decide) dX8_setOn_46 ?_
    refine J_goto 51 (by decide) dX8_setOn_47 ?_
    refine J_zast (I' := ku (ku I 30 0 31 0) 43 0 s 1) (L' := L) (R' := R) s 2 n43 rfl rfl (vp_in_nI (by omega) (by decide)) (nI_toNat (by omega)) (by rw [ku_own]; rfl) (fun k' i' h => ⟨ku_row _ _ h, rfl, rfl⟩) dX8_setOn_51 ?_
    have hM8 := MR_ms (k := 43) (j := s) (v := 1) hM4 rfl
    have hM9 : MR (soM m s false) 0 (ku (ku I 30 0 31 0) 43 0 s 1) L := (by exact hM8)
    refine J_iload_n 2 rfl dX8_setOn_52 ?_
    refine J_if_ne 73 (by decide) dX8_setOn_53 (fun c10 => ?_) (fun c10 => ?_)
    · exact absurd (by decide) c10
    refine J_aload_n 0 rfl dX8_setOn_56 ?_
    refine J_iload_n 1 rfl dX8_setOn_57 ?_
    refine cv_8_123 (cells' := 0) (slots' := 0) dX8_setOn_58 (c_X8_busy (m := soM m s false) (s := s) hM9 hn h150) n30 ⟨by decide, by decide⟩ rfl rfl (by decide) (by decide) (Nat.le_of_ble_eq_true rfl) (fun _ _ r11 => ?_) (fun _ _ h => h.elim)
    obtain ⟨rfl, rfl⟩ := r11
    refine J_eq (st' := [.int (oI (mHold m (nI s)))]) rfl rfl rfl ?_
    refine J_topeq (nI c) (by rw [hm]; rfl) ?_
    refine J_if_lt 73 (by decide) dX8_setOn_61 (fun c12 => ?_) (fun c12 => ?_)
    · exfalso
      have Nc12 : c < 0 := (nI_ltI (a := c) (b := 0) (by omega) (by omega)).mp c12
      omega
    have Nc12 : ¬ (c < 0) := fun q => c12 ((nI_ltI (a := c) (b := 0) (by omega) (by omega)).mpr q)
    refine J_aload_n 0 rfl dX8_setOn_64 ?_
    refine J_aload_n 0 rfl dX8_setOn_65 ?_
    refine J_iload_n 1 rfl dX8_setOn_66 ?_
    refine cv_8_123 (cells' := 0) (slots' := 0) dX8_setOn_67 (c_X8_busy (m := soM m s false) (s := s) hM9 hn h150) n30 ⟨by decide, by decide⟩ rfl rfl (by decide) (by decide) (Nat.le_of_ble_eq_true rfl) (fun _ _ r13 => ?_) (fun _ _ h => h.elim)
    obtain ⟨rfl, rfl⟩ := r13
    refine J_eq (st' := [.int (oI (mHold m (nI s))), .ref (ka S 30 0)]) rfl rfl rfl ?_
    refine J_topeq (nI c) (by rw [hm]; rfl) ?_
    refine cv_8_126 (cells' := 0) (slots' := 0) dX8_setOn_70 (c_X8_interrupts (m := soM m s false) (c := c) hM9 (by omega) hg0) n30 ⟨by decide, by decide⟩ rfl rfl (by decide) (by decide) (Nat.le_of_ble_eq_true rfl) (fun _ _ r15 => ?_) (fun _ _ h => h.elim)
    obtain ⟨rfl, I14, L14, rfl, hM14⟩ := r15
    refine J_eq (st' := []) rfl rfl rfl ?_
    refine J_aload_n 0 rfl dX8_setOn_73 ?_
    refine cv_8_117 (cells' := 0) (slots' := 0) dX8_setOn_74 (c_X8_letsSpeak (m := (mInt (soM m s false) c)) hM14 (mN_same (same_int _) (show mN (soM m s false) from hn)) hI2 (by omega)) n30 ⟨by decide, by decide⟩ rfl rfl (by decide) (by decide) (Nat.le_of_ble_eq_true rfl) (fun _ _ r17 => ?_) (fun _ _ h => h.elim)
    obtain ⟨rfl, I16, L16, rfl, hM16⟩ := r17
    refine J_eq (st' := []) rfl rfl rfl ?_
    refine J_iload_n 3 rfl dX8_setOn_77 ?_
    exact J_ireturn rfl (by first | rfl | assumption | simp [kb_nar]) dX8_setOn_78 (⟨by first | (rw [if_pos (by assumption)]) | (rw [if_neg (by assumption)]), _, _, rfl, hM16⟩) (by omega) (by omega)
  · skip
    refine J_iconst (v := 1) (by decide) dX8_setOn_31 ?_
    refine J_goto 36 (by decide) dX8_setOn_32 ?_
    refine J_istore_n (lv' := [(0, .ref (ka S 30 0)), (1, .int (nI s)), (2, .int 0), (3, .int 1)]) (by decide) rfl dX8_setOn_36 ?_
    refine J_aload_n 0 rfl dX8_setOn_37 ?_
    refine gf_8_16 n30 dX8_setOn_38 ?_
    refine J_iload_n 1 rfl dX8_setOn_41 ?_
    refine J_iload_n 2 rfl dX8_setOn_42 ?_
    refine J_if_ne 50 (by decide) dX8_setOn_43 (fun c18 => ?_) (fun c18 => ?_)
    · exact absurd (by decide) c18
    refine J_iconst (v := 1) (by decide) dX8_setOn_46 ?_
    refine J_goto 51 (by decide) dX8_setOn_47 ?_
    refine J_zast (I' := ku (ku I 30 0 31 0) 43 0 s 1) (L' := L) (R' := R) s 2 n43 rfl rfl (vp_in_nI (by omega) (by decide)) (nI_toNat (by omega)) (by rw [ku_own]; rfl) (fun k' i' h => ⟨ku_row _ _ h, rfl, rfl⟩) dX8_setOn_51 ?_
    have hM19 := MR_ms (k := 43) (j := s) (v := 1) hM4 rfl
    have hM20 : MR (soM m s false) 0 (ku (ku I 30 0 31 0) 43 0 s 1) L := (by exact hM19)
    refine J_iload_n 2 rfl dX8_setOn_52 ?_
    refine J_if_ne 73 (by decide) dX8_setOn_53 (fun c21 => ?_) (fun c21 => ?_)
    · exact absurd (by decide) c21
    refine J_aload_n 0 rfl dX8_setOn_56 ?_
    refine J_iload_n 1 rfl dX8_setOn_57 ?_
    refine cv_8_123 (cells' := 0) (slots' := 0) dX8_setOn_58 (c_X8_busy (m := soM m s false) (s := s) hM20 hn h150) n30 ⟨by decide, by decide⟩ rfl rfl (by decide) (by decide) (Nat.le_of_ble_eq_true rfl) (fun _ _ r22 => ?_) (fun _ _ h => h.elim)
    obtain ⟨rfl, rfl⟩ := r22
    refine J_eq (st' := [.int (oI (mHold m (nI s)))]) rfl rfl rfl ?_
    refine J_topeq (nI c) (by rw [hm]; rfl) ?_
    refine J_if_lt 73 (by decide) dX8_setOn_61 (fun c23 => ?_) (fun c23 => ?_)
    · exfalso
      have Nc23 : c < 0 := (nI_ltI (a := c) (b := 0) (by omega) (by omega)).mp c23
      omega
    have Nc23 : ¬ (c < 0) := fun q => c23 ((nI_ltI (a := c) (b := 0) (by omega) (by omega)).mpr q)
    refine J_aload_n 0 rfl dX8_setOn_64 ?_
    refine J_aload_n 0 rfl dX8_setOn_65 ?_
    refine J_iload_n 1 rfl dX8_setOn_66 ?_
    refine cv_8_123 (cells' := 0) (slots' := 0) dX8_setOn_67 (c_X8_busy (m := soM m s false) (s := s) hM20 hn h150) n30 ⟨by decide, by decide⟩ rfl rfl (by decide) (by decide) (Nat.le_of_ble_eq_true rfl) (fun _ _ r24 => ?_) (fun _ _ h => h.elim)
    obtain ⟨rfl, rfl⟩ := r24
    refine J_eq (st' := [.int (oI (mHold m (nI s))), .ref (ka S 30 0)]) rfl rfl rfl ?_
    refine J_topeq (nI c) (by rw [hm]; rfl) ?_
    refine cv_8_126 (cells' := 0) (slots' := 0) dX8_setOn_70 (c_X8_interrupts (m := soM m s false) (c := c) hM20 (by omega) hg0) n30 ⟨by decide, by decide⟩ rfl rfl (by decide) (by decide) (Nat.le_of_ble_eq_true rfl) (fun _ _ r26 => ?_) (fun _ _ h => h.elim)
    obtain ⟨rfl, I25, L25, rfl, hM25⟩ := r26
    refine J_eq (st' := []) rfl rfl rfl ?_
    refine J_aload_n 0 rfl dX8_setOn_73 ?_
    refine cv_8_117 (cells' := 0) (slots' := 0) dX8_setOn_74 (c_X8_letsSpeak (m := (mInt (soM m s false) c)) hM25 (mN_same (same_int _) (show mN (soM m s false) from hn)) hI2 (by omega)) n30 ⟨by decide, by decide⟩ rfl rfl (by decide) (by decide) (Nat.le_of_ble_eq_true rfl) (fun _ _ r28 => ?_) (fun _ _ h => h.elim)
    obtain ⟨rfl, I27, L27, rfl, hM27⟩ := r28
    refine J_eq (st' := []) rfl rfl rfl ?_
    refine J_iload_n 3 rfl dX8_setOn_77 ?_
    exact J_ireturn rfl (by first | rfl | assumption | simp [kb_nar]) dX8_setOn_78 (⟨by first | (rw [if_pos (by assumption)]) | (rw [if_neg (by assumption)]), _, _, rfl, hM27⟩) (by omega) (by omega)

set_option maxRecDepth 20000 in
set_option maxHeartbeats 1000000 in
theorem c_X8_setOn_x {cy : Nat → ClassId} {S : Nat → Nat → Nat} {I : kI} {L : kL} {R : kRf} {m : Mu} {cd : Int32} {x v : Int32} (hM : MR m cd I L) {Ic : kI} {Lc : kL} {Rc : kRf} {LPc : List Nat} {rc : Nat → Nat} {ln qu : List Nat} {lg B : Nat} (hR : Rel m Ic Lc Rc LPc rc ln qu lg) (hI : Inv m B) (hB : B + 90000 < 2 ^ 30) (hx : ∀ s, s < mS m → x ≠ nI s) : Con yX8_setOn cX8_setOn 4 (some .boolean) 7 0 0 cy [.ref (ka S 30 0), .int x, .int v] (wm cy S I L R) (fun r w' => r = some (.int 0) ∧ MX cy S R m 1 w') kF := by
  have hn : mN m := ⟨hR.1.1, hR.2.1.1⟩
  have h10 := hI.1
  have h150 := hI.2.2.1
  have hg0 := inv_g hI (by omega)
  have hkk := hI.2.2.2.1
  have hh := hI.2.2.2.2.1
  refine Con_of (by decide +kernel) (Nat.le_of_ble_eq_true rfl) ?_
  refine J_eq (lv' := [(0, .ref (ka S 30 0)), (1, .int x), (2, .int v)]) rfl rfl rfl ?_
  refine J_aload_n 0 rfl dX8_setOn_0 ?_
  refine J_aload_n 0 rfl dX8_setOn_1 ?_
  refine J_iload_n 1 rfl dX8_setOn_2 ?_
  refine cv_8_120 (cells' := 0) (slots' := 0) dX8_setOn_3 (c_X8_isNone hM hn) n30 ⟨by decide, by decide⟩ rfl rfl (by decide) (by decide) (Nat.le_of_ble_eq_true rfl) (fun _ _ r1 => ?_) (fun _ _ h => h.elim)
  obtain ⟨rfl, rfl⟩ := r1
  refine J_eq (st' := [.int (kb (!(decide (0 ≤ x) && decide (x ≤ nI (mS m) - 1)))), .ref (ka S 30 0)]) rfl rfl rfl ?_
  refine J_topeq 1 (by rw [none_t (n := mS m) (by omega) (by assumption)]; rfl) ?_
  refine J_if_eq 13 (by decide) dX8_setOn_6 (fun c2 => ?_) (fun c2 => ?_)
  · exact absurd c2 (by decide)
  refine J_iconst (v := 1) (by decide) dX8_setOn_9 ?_
  refine J_goto 14 (by decide) dX8_setOn_10 ?_
  refine cv_8_113 (cells' := 0) (slots' := 0) dX8_setOn_14 (c_X8_failsE (x := 1)) n30 ⟨by decide, by decide⟩ rfl rfl (by decide) (by decide) (Nat.le_of_ble_eq_true rfl) (fun _ _ r3 => ?_) (fun _ _ h => h.elim)
  obtain ⟨rfl, rfl⟩ := r3
  refine J_eq (st' := [.int (kb (decide (0 < (1 : Int32))))]) rfl rfl rfl ?_
  have hM4 := MR_cd hM (v := 1)
  refine J_topeq 1 (by decide) ?_
  refine J_if_eq 22 (by decide) dX8_setOn_17 (fun c5 => ?_) (fun c5 => ?_)
  · exact absurd c5 (by decide)
  refine J_iconst (v := 0) (by decide) dX8_setOn_20 ?_
  exact J_ireturn rfl (by first | rfl | assumption | simp [kb_nar]) dX8_setOn_21 (⟨rfl, _, _, rfl, hM4⟩) (by omega) (by omega)

set_option maxRecDepth 20000 in
set_option maxHeartbeats 1000000 in
theorem c_X8_call_s {cy : Nat → ClassId} {S : Nat → Nat → Nat} {I : kI} {L : kL} {R : kRf} {m : Mu} {cd : Int32} {s t : Nat} {u k : Int32} (hM : MR m cd I L) {Ic : kI} {Lc : kL} {Rc : kRf} {LPc : List Nat} {rc : Nat → Nat} {ln qu : List Nat} {lg B : Nat} (hR : Rel m Ic Lc Rc LPc rc ln qu lg) (hI : Inv m B) (hB : B + 90000 < 2 ^ 30) (hs : s < mS m) (ht : t < mS m) (hne : s ≠ t) (hu : u = 100 ∨ u = 117 ∨ u = 115 ∨ u = 114) (hk : 1 ≤ k ∧ k ≤ 30) (hfu : mFull m = false) : Con yX8_call cX8_call 6 (some .int) 7 0 0 cy [.ref (ka S 30 0), .int (nI s), .int (nI t), .int u, .int k] (wm cy S I L R) (fun r w' => r = some (.int (nI (mC m))) ∧ MX cy S R (mSpeak (mPlace m (nI s) (nI t) u k)) 0 w') kF := by
  have hn : mN m := ⟨hR.1.1, hR.2.1.1⟩
  have h10 := hI.1
  have h150 := hI.2.2.1
  have hg0 := inv_g hI (by omega)
  have hkk := hI.2.2.2.1
  have hh := hI.2.2.2.2.1
  have hff := full_f hI hfu
  refine Con_of (by decide +kernel) (Nat.le_of_ble_eq_true rfl) ?_
  refine J_eq (lv' := [(0, .ref (ka S 30 0)), (1, .int (nI s)), (2, .int (nI t)), (3, .int u), (4, .int k)]) rfl rfl rfl ?_
  refine J_aload_n 0 rfl dX8_call_0 ?_
  refine J_aload_n 0 rfl dX8_call_1 ?_
  refine J_iload_n 1 rfl dX8_call_2 ?_
  refine cv_8_120 (cells' := 0) (slots' := 0) dX8_call_3 (c_X8_isNone hM hn) n30 ⟨by decide, by decide⟩ rfl rfl (by decide) (by decide) (Nat.le_of_ble_eq_true rfl) (fun _ _ r1 => ?_) (fun _ _ h => h.elim)
  obtain ⟨rfl, rfl⟩ := r1
  refine J_eq (st' := [.int (kb (!(decide (0 ≤ (nI s)) && decide ((nI s) ≤ nI (mS m) - 1)))), .ref (ka S 30 0)]) rfl rfl rfl ?_
  refine J_topeq 0 (by rw [none_f (n := mS m) (by omega) (by assumption)]; rfl) ?_
  refine J_if_ne 17 (by decide) dX8_call_6 (fun c2 => ?_) (fun c2 => ?_)
  · exact absurd (by decide) c2
  refine J_aload_n 0 rfl dX8_call_9 ?_
  refine J_iload_n 2 rfl dX8_call_10 ?_
  refine cv_8_120 (cells' := 0) (slots' := 0) dX8_call_11 (c_X8_isNone hM hn) n30 ⟨by decide, by decide⟩ rfl rfl (by decide) (by decide) (Nat.le_of_ble_eq_true rfl) (fun _ _ r3 => ?_) (fun _ _ h => h.elim)
  obtain ⟨rfl, rfl⟩ := r3
  refine J_eq (st' := [.int (kb (!(decide (0 ≤ (nI t)) && decide ((nI t) ≤ nI (mS m) - 1)))), .ref (ka S 30 0)]) rfl rfl rfl ?_
  refine J_topeq 0 (by rw [none_f (n := mS m) (by omega) (by assumption)]; rfl) ?_
  refine J_if_eq 21 (by decide) dX8_call_14 (fun c4 => ?_) (fun c4 => ?_)
  rotate_left
  · exact absurd (by decide) c4
  refine J_iload_n 1 rfl dX8_call_21 ?_
  refine J_iload_n 2 rfl dX8_call_22 ?_
  refine J_icmp_eq 44 (by decide) dX8_call_23 (fun c5 => ?_) (fun c5 => ?_)
  · exfalso
    have Nc5 : s = t := (nI_eqL (a := s) (b := t) (by omega) (by omega)).mp c5
    omega
  have Nc5 : ¬ (s = t) := fun q => c5 ((nI_eqL (a := s) (b := t) (by omega) (by omega)).mpr q)
  refine J_iload_n 3 rfl dX8_call_26 ?_
  refine cv_8_145 (i := 0) (cells' := 0) (slots' := 0) dX8_call_27 (c_X8_rank) ⟨by decide, by decide⟩ rfl rfl (by decide) (by decide) (Nat.le_of_ble_eq_true rfl) (fun _ _ r6 => ?_) (fun _ _ h => h.elim)
  obtain ⟨rfl, rfl⟩ := r6
  refine J_eq (st' := [.int (wghtF u), .ref (ka S 30 0)]) rfl rfl rfl ?_
  refine J_if_lt 44 (by decide) dX8_call_30 (fun c7 => ?_) (fun c7 => ?_)
  · exfalso
    exact wght_ge hu c7
  refine J_iload 4 rfl dX8_call_33 ?_
  refine J_iconst (v := 1) (by decide) dX8_call_35 ?_
  refine J_bipush (v := 30) (by decide) dX8_call_36 ?_
  refine cv_8_91 (i := 0) (cells' := 0) (slots' := 0) dX8_call_38 (c_X8_in) ⟨by decide, by decide⟩ rfl rfl (by decide) (by decide) (Nat.le_of_ble_eq_true rfl) (fun _ _ r8 => ?_) (fun _ _ h => h.elim)
  obtain ⟨rfl, rfl⟩ := r8
  refine J_eq (st' := [.int (kb (decide (1 ≤ k) && decide (k ≤ 30))), .ref (ka S 30 0)]) rfl rfl rfl ?_
  refine J_topeq 1 (by rw [in_t hk]; rfl) ?_
  refine J_if_ne 48 (by decide) dX8_call_41 (fun c9 => ?_) (fun c9 => ?_)
  rotate_left
  · exact absurd c9 (by decide)
  refine J_aload_n 0 rfl dX8_call_48 ?_
  refine cv_8_190 (cells' := 0) (slots' := 0) dX8_call_49 (c_X8_isFull hM hn h150) n30 ⟨by decide, by decide⟩ rfl rfl (by decide) (by decide) (Nat.le_of_ble_eq_true rfl) (fun _ _ r10 => ?_) (fun _ _ h => h.elim)
  obtain ⟨rfl, rfl⟩ := r10
  refine J_eq (st' := [.int (kb (mFull m)), .ref (ka S 30 0)]) rfl rfl rfl ?_
  refine J_topeq 0 (by rw [hfu]; rfl) ?_
  refine J_if_eq 59 (by decide) dX8_call_52 (fun c11 => ?_) (fun c11 => ?_)
  rotate_left
  · exact absurd (by decide) c11
  refine J_iconst (v := 0) (by decide) dX8_call_59 ?_
  refine cv_8_113 (cells' := 0) (slots' := 0) dX8_call_60 (c_X8_failsE (x := 0)) n30 ⟨by decide, by decide⟩ rfl rfl (by decide) (by decide) (Nat.le_of_ble_eq_true rfl) (fun _ _ r12 => ?_) (fun _ _ h => h.elim)
  obtain ⟨rfl, rfl⟩ := r12
  refine J_eq (st' := [.int (kb (decide (0 < (0 : Int32))))]) rfl rfl rfl ?_
  have hM13 := MR_cd hM (v := 0)
  refine J_topeq 0 (by decide) ?_
  refine J_if_eq 68 (by decide) dX8_call_63 (fun c14 => ?_) (fun c14 => ?_)
  rotate_left
  · exact absurd (by decide) c14
  refine J_aload_n 0 rfl dX8_call_68 ?_
  refine gf_8_135 n30 dX8_call_69 ?_
  refine J_topeq (nI (mC m)) ((hM13.1 30 10 rfl).trans (by exact hn.2)) ?_
  refine J_istore (lv' := [(0, .ref (ka S 30 0)), (1, .int (nI s)), (2, .int (nI t)), (3, .int u), (4, .int k), (5, .int (nI (mC m)))]) (by decide) rfl dX8_call_72 ?_
  refine J_aload_n 0 rfl dX8_call_74 ?_
  refine J_iload_n 1 rfl dX8_call_75 ?_
  refine J_iload_n 2 rfl dX8_call_76 ?_
  refine J_iload_n 3 rfl dX8_call_77 ?_
  refine J_iload 4 rfl dX8_call_78 ?_
  refine cv_8_194 (cells' := 0) (slots' := 0) dX8_call_80 (c_X8_places (m := m) hM13 hn hff.1 hg0 (nar_u hu)) n30 ⟨by decide, by decide⟩ rfl rfl (by decide) (by decide) (Nat.le_of_ble_eq_true rfl) (fun _ _ r16 => ?_) (fun _ _ h => h.elim)
  obtain ⟨rfl, I15, L15, rfl, hM15⟩ := r16
  refine J_eq (st' := []) rfl rfl rfl ?_
  refine J_aload_n 0 rfl dX8_call_83 ?_
  refine cv_8_117 (cells' := 0) (slots' := 0) dX8_call_84 (c_X8_letsSpeak (m := (mPlace m (nI s) (nI t) u k)) hM15 (mN_place hn hff.1) (inv_place (k := k) hn.2 hI hfu hs ht hne hu) (by omega)) n30 ⟨by decide, by decide⟩ rfl rfl (by decide) (by decide) (Nat.le_of_ble_eq_true rfl) (fun _ _ r18 => ?_) (fun _ _ h => h.elim)
  obtain ⟨rfl, I17, L17, rfl, hM17⟩ := r18
  refine J_eq (st' := []) rfl rfl rfl ?_
  refine J_iload 5 rfl dX8_call_87 ?_
  exact J_ireturn rfl (by first | rfl | assumption | simp [kb_nar]) dX8_call_89 (⟨rfl, _, _, rfl, hM17⟩) (by omega) (by omega)

set_option maxRecDepth 20000 in
set_option maxHeartbeats 1000000 in
theorem c_X8_call_u {cy : Nat → ClassId} {S : Nat → Nat → Nat} {I : kI} {L : kL} {R : kRf} {m : Mu} {cd : Int32} {s t : Nat} {u k : Int32} (hM : MR m cd I L) {Ic : kI} {Lc : kL} {Rc : kRf} {LPc : List Nat} {rc : Nat → Nat} {ln qu : List Nat} {lg B : Nat} (hR : Rel m Ic Lc Rc LPc rc ln qu lg) (hI : Inv m B) (hB : B + 90000 < 2 ^ 30) (hs : s < mS m) (ht : t < mS m) (hne : s ≠ t) (hu : ¬ (u = 100 ∨ u = 117 ∨ u = 115 ∨ u = 114)) : Con yX8_call cX8_call 6 (some .int) 7 0 0 cy [.ref (ka S 30 0), .int (nI s), .int (nI t), .int u, .int k] (wm cy S I L R) (fun r w' => r = some (.int 0) ∧ MX cy S R m 2 w') kF := by
  have hn : mN m := ⟨hR.1.1, hR.2.1.1⟩
  have h10 := hI.1
  have h150 := hI.2.2.1
  have hg0 := inv_g hI (by omega)
  have hkk := hI.2.2.2.1
  have hh := hI.2.2.2.2.1
  refine Con_of (by decide +kernel) (Nat.le_of_ble_eq_true rfl) ?_
  refine J_eq (lv' := [(0, .ref (ka S 30 0)), (1, .int (nI s)), (2, .int (nI t)), (3, .int u), (4, .int k)]) rfl rfl rfl ?_
  refine J_aload_n 0 rfl dX8_call_0 ?_
  refine J_aload_n 0 rfl dX8_call_1 ?_
  refine J_iload_n 1 rfl dX8_call_2 ?_
  refine cv_8_120 (cells' := 0) (slots' := 0) dX8_call_3 (c_X8_isNone hM hn) n30 ⟨by decide, by decide⟩ rfl rfl (by decide) (by decide) (Nat.le_of_ble_eq_true rfl) (fun _ _ r1 => ?_) (fun _ _ h => h.elim)
  obtain ⟨rfl, rfl⟩ := r1
  refine J_eq (st' := [.int (kb (!(decide (0 ≤ (nI s)) && decide ((nI s) ≤ nI (mS m) - 1)))), .ref (ka S 30 0)]) rfl rfl rfl ?_
  refine J_topeq 0 (by rw [none_f (n := mS m) (by omega) (by assumption)]; rfl) ?_
  refine J_if_ne 17 (by decide) dX8_call_6 (fun c2 => ?_) (fun c2 => ?_)
  · exact absurd (by decide) c2
  refine J_aload_n 0 rfl dX8_call_9 ?_
  refine J_iload_n 2 rfl dX8_call_10 ?_
  refine cv_8_120 (cells' := 0) (slots' := 0) dX8_call_11 (c_X8_isNone hM hn) n30 ⟨by decide, by decide⟩ rfl rfl (by decide) (by decide) (Nat.le_of_ble_eq_true rfl) (fun _ _ r3 => ?_) (fun _ _ h => h.elim)
  obtain ⟨rfl, rfl⟩ := r3
  refine J_eq (st' := [.int (kb (!(decide (0 ≤ (nI t)) && decide ((nI t) ≤ nI (mS m) - 1)))), .ref (ka S 30 0)]) rfl rfl rfl ?_
  refine J_topeq 0 (by rw [none_f (n := mS m) (by omega) (by assumption)]; rfl) ?_
  refine J_if_eq 21 (by decide) dX8_call_14 (fun c4 => ?_) (fun c4 => ?_)
  rotate_left
  · exact absurd (by decide) c4
  refine J_iload_n 1 rfl dX8_call_21 ?_
  refine J_iload_n 2 rfl dX8_call_22 ?_
  refine J_icmp_eq 44 (by decide) dX8_call_23 (fun c5 => ?_) (fun c5 => ?_)
  · exfalso
    have Nc5 : s = t := (nI_eqL (a := s) (b := t) (by omega) (by omega)).mp c5
    omega
  have Nc5 : ¬ (s = t) := fun q => c5 ((nI_eqL (a := s) (b := t) (by omega) (by omega)).mpr q)
  refine J_iload_n 3 rfl dX8_call_26 ?_
  refine cv_8_145 (i := 0) (cells' := 0) (slots' := 0) dX8_call_27 (c_X8_rank) ⟨by decide, by decide⟩ rfl rfl (by decide) (by decide) (Nat.le_of_ble_eq_true rfl) (fun _ _ r6 => ?_) (fun _ _ h => h.elim)
  obtain ⟨rfl, rfl⟩ := r6
  refine J_eq (st' := [.int (wghtF u), .ref (ka S 30 0)]) rfl rfl rfl ?_
  refine J_if_lt 44 (by decide) dX8_call_30 (fun c7 => ?_) (fun c7 => ?_)
  rotate_left
  · exfalso
    exact c7 (by rw [wght_m1 hu]; decide)
  refine J_iconst (v := 2) (by decide) dX8_call_44 ?_
  refine J_goto 60 (by decide) dX8_call_45 ?_
  refine cv_8_113 (cells' := 0) (slots' := 0) dX8_call_60 (c_X8_failsE (x := 2)) n30 ⟨by decide, by decide⟩ rfl rfl (by decide) (by decide) (Nat.le_of_ble_eq_true rfl) (fun _ _ r8 => ?_) (fun _ _ h => h.elim)
  obtain ⟨rfl, rfl⟩ := r8
  refine J_eq (st' := [.int (kb (decide (0 < (2 : Int32))))]) rfl rfl rfl ?_
  have hM9 := MR_cd hM (v := 2)
  refine J_topeq 1 (by decide) ?_
  refine J_if_eq 68 (by decide) dX8_call_63 (fun c10 => ?_) (fun c10 => ?_)
  · exact absurd c10 (by decide)
  refine J_iconst (v := 0) (by decide) dX8_call_66 ?_
  exact J_ireturn rfl (by first | rfl | assumption | simp [kb_nar]) dX8_call_67 (⟨rfl, _, _, rfl, hM9⟩) (by omega) (by omega)

set_option maxRecDepth 20000 in
set_option maxHeartbeats 1000000 in
theorem c_X8_call_k {cy : Nat → ClassId} {S : Nat → Nat → Nat} {I : kI} {L : kL} {R : kRf} {m : Mu} {cd : Int32} {s t : Nat} {u k : Int32} (hM : MR m cd I L) {Ic : kI} {Lc : kL} {Rc : kRf} {LPc : List Nat} {rc : Nat → Nat} {ln qu : List Nat} {lg B : Nat} (hR : Rel m Ic Lc Rc LPc rc ln qu lg) (hI : Inv m B) (hB : B + 90000 < 2 ^ 30) (hs : s < mS m) (ht : t < mS m) (hne : s ≠ t) (hu : u = 100 ∨ u = 117 ∨ u = 115 ∨ u = 114) (hk : ¬ (1 ≤ k ∧ k ≤ 30)) : Con yX8_call cX8_call 6 (some .int) 7 0 0 cy [.ref (ka S 30 0), .int (nI s), .int (nI t), .int u, .int k] (wm cy S I L R) (fun r w' => r = some (.int 0) ∧ MX cy S R m 2 w') kF := by
  have hn : mN m := ⟨hR.1.1, hR.2.1.1⟩
  have h10 := hI.1
  have h150 := hI.2.2.1
  have hg0 := inv_g hI (by omega)
  have hkk := hI.2.2.2.1
  have hh := hI.2.2.2.2.1
  refine Con_of (by decide +kernel) (Nat.le_of_ble_eq_true rfl) ?_
  refine J_eq (lv' := [(0, .ref (ka S 30 0)), (1, .int (nI s)), (2, .int (nI t)), (3, .int u), (4, .int k)]) rfl rfl rfl ?_
  refine J_aload_n 0 rfl dX8_call_0 ?_
  refine J_aload_n 0 rfl dX8_call_1 ?_
  refine J_iload_n 1 rfl dX8_call_2 ?_
  refine cv_8_120 (cells' := 0) (slots' := 0) dX8_call_3 (c_X8_isNone hM hn) n30 ⟨by decide, by decide⟩ rfl rfl (by decide) (by decide) (Nat.le_of_ble_eq_true rfl) (fun _ _ r1 => ?_) (fun _ _ h => h.elim)
  obtain ⟨rfl, rfl⟩ := r1
  refine J_eq (st' := [.int (kb (!(decide (0 ≤ (nI s)) && decide ((nI s) ≤ nI (mS m) - 1)))), .ref (ka S 30 0)]) rfl rfl rfl ?_
  refine J_topeq 0 (by rw [none_f (n := mS m) (by omega) (by assumption)]; rfl) ?_
  refine J_if_ne 17 (by decide) dX8_call_6 (fun c2 => ?_) (fun c2 => ?_)
  · exact absurd (by decide) c2
  refine J_aload_n 0 rfl dX8_call_9 ?_
  refine J_iload_n 2 rfl dX8_call_10 ?_
  refine cv_8_120 (cells' := 0) (slots' := 0) dX8_call_11 (c_X8_isNone hM hn) n30 ⟨by decide, by decide⟩ rfl rfl (by decide) (by decide) (Nat.le_of_ble_eq_true rfl) (fun _ _ r3 => ?_) (fun _ _ h => h.elim)
  obtain ⟨rfl, rfl⟩ := r3
  refine J_eq (st' := [.int (kb (!(decide (0 ≤ (nI t)) && decide ((nI t) ≤ nI (mS m) - 1)))), .ref (ka S 30 0)]) rfl rfl rfl ?_
  refine J_topeq 0 (by rw [none_f (n := mS m) (by omega) (by assumption)]; rfl) ?_
  refine J_if_eq 21 (by decide) dX8_call_14 (fun c4 => ?_) (fun c4 => ?_)
  rotate_left
  · exact absurd (by decide) c4
  refine J_iload_n 1 rfl dX8_call_21 ?_
  refine J_iload_n 2 rfl dX8_call_22 ?_
  refine J_icmp_eq 44 (by decide) dX8_call_23 (fun c5 => ?_) (fun c5 => ?_)
  · exfalso
    have Nc5 : s = t := (nI_eqL (a := s) (b := t) (by omega) (by omega)).mp c5
    omega
  have Nc5 : ¬ (s = t) := fun q => c5 ((nI_eqL (a := s) (b := t) (by omega) (by omega)).mpr q)
  refine J_iload_n 3 rfl dX8_call_26 ?_
  refine cv_8_145 (i := 0) (cells' := 0) (slots' := 0) dX8_call_27 (c_X8_rank) ⟨by decide, by decide⟩ rfl rfl (by decide) (by decide) (Nat.le_of_ble_eq_true rfl) (fun _ _ r6 => ?_) (fun _ _ h => h.elim)
  obtain ⟨rfl, rfl⟩ := r6
  refine J_eq (st' := [.int (wghtF u), .ref (ka S 30 0)]) rfl rfl rfl ?_
  refine J_if_lt 44 (by decide) dX8_call_30 (fun c7 => ?_) (fun c7 => ?_)
  · exfalso
    exact wght_ge hu c7
  refine J_iload 4 rfl dX8_call_33 ?_
  refine J_iconst (v := 1) (by decide) dX8_call_35 ?_
  refine J_bipush (v := 30) (by decide) dX8_call_36 ?_
  refine cv_8_91 (i := 0) (cells' := 0) (slots' := 0) dX8_call_38 (c_X8_in) ⟨by decide, by decide⟩ rfl rfl (by decide) (by decide) (Nat.le_of_ble_eq_true rfl) (fun _ _ r8 => ?_) (fun _ _ h => h.elim)
  obtain ⟨rfl, rfl⟩ := r8
  refine J_eq (st' := [.int (kb (decide (1 ≤ k) && decide (k ≤ 30))), .ref (ka S 30 0)]) rfl rfl rfl ?_
  refine J_topeq 0 (by rw [in_f hk]; rfl) ?_
  refine J_if_ne 48 (by decide) dX8_call_41 (fun c9 => ?_) (fun c9 => ?_)
  · exact absurd (by decide) c9
  refine J_iconst (v := 2) (by decide) dX8_call_44 ?_
  refine J_goto 60 (by decide) dX8_call_45 ?_
  refine cv_8_113 (cells' := 0) (slots' := 0) dX8_call_60 (c_X8_failsE (x := 2)) n30 ⟨by decide, by decide⟩ rfl rfl (by decide) (by decide) (Nat.le_of_ble_eq_true rfl) (fun _ _ r10 => ?_) (fun _ _ h => h.elim)
  obtain ⟨rfl, rfl⟩ := r10
  refine J_eq (st' := [.int (kb (decide (0 < (2 : Int32))))]) rfl rfl rfl ?_
  have hM11 := MR_cd hM (v := 2)
  refine J_topeq 1 (by decide) ?_
  refine J_if_eq 68 (by decide) dX8_call_63 (fun c12 => ?_) (fun c12 => ?_)
  · exact absurd c12 (by decide)
  refine J_iconst (v := 0) (by decide) dX8_call_66 ?_
  exact J_ireturn rfl (by first | rfl | assumption | simp [kb_nar]) dX8_call_67 (⟨rfl, _, _, rfl, hM11⟩) (by omega) (by omega)

set_option maxRecDepth 20000 in
set_option maxHeartbeats 1000000 in
theorem c_X8_call_f {cy : Nat → ClassId} {S : Nat → Nat → Nat} {I : kI} {L : kL} {R : kRf} {m : Mu} {cd : Int32} {s t : Nat} {u k : Int32} (hM : MR m cd I L) {Ic : kI} {Lc : kL} {Rc : kRf} {LPc : List Nat} {rc : Nat → Nat} {ln qu : List Nat} {lg B : Nat} (hR : Rel m Ic Lc Rc LPc rc ln qu lg) (hI : Inv m B) (hB : B + 90000 < 2 ^ 30) (hs : s < mS m) (ht : t < mS m) (hne : s ≠ t) (hu : u = 100 ∨ u = 117 ∨ u = 115 ∨ u = 114) (hk : 1 ≤ k ∧ k ≤ 30) (hfu : mFull m = true) : Con yX8_call cX8_call 6 (some .int) 7 0 0 cy [.ref (ka S 30 0), .int (nI s), .int (nI t), .int u, .int k] (wm cy S I L R) (fun r w' => r = some (.int 0) ∧ MX cy S R m 3 w') kF := by
  have hn : mN m := ⟨hR.1.1, hR.2.1.1⟩
  have h10 := hI.1
  have h150 := hI.2.2.1
  have hg0 := inv_g hI (by omega)
  have hkk := hI.2.2.2.1
  have hh := hI.2.2.2.2.1
  refine Con_of (by decide +kernel) (Nat.le_of_ble_eq_true rfl) ?_
  refine J_eq (lv' := [(0, .ref (ka S 30 0)), (1, .int (nI s)), (2, .int (nI t)), (3, .int u), (4, .int k)]) rfl rfl rfl ?_
  refine J_aload_n 0 rfl dX8_call_0 ?_
  refine J_aload_n 0 rfl dX8_call_1 ?_
  refine J_iload_n 1 rfl dX8_call_2 ?_
  refine cv_8_120 (cells' := 0) (slots' := 0) dX8_call_3 (c_X8_isNone hM hn) n30 ⟨by decide, by decide⟩ rfl rfl (by decide) (by decide) (Nat.le_of_ble_eq_true rfl) (fun _ _ r1 => ?_) (fun _ _ h => h.elim)
  obtain ⟨rfl, rfl⟩ := r1
  refine J_eq (st' := [.int (kb (!(decide (0 ≤ (nI s)) && decide ((nI s) ≤ nI (mS m) - 1)))), .ref (ka S 30 0)]) rfl rfl rfl ?_
  refine J_topeq 0 (by rw [none_f (n := mS m) (by omega) (by assumption)]; rfl) ?_
  refine J_if_ne 17 (by decide) dX8_call_6 (fun c2 => ?_) (fun c2 => ?_)
  · exact absurd (by decide) c2
  refine J_aload_n 0 rfl dX8_call_9 ?_
  refine J_iload_n 2 rfl dX8_call_10 ?_
  refine cv_8_120 (cells' := 0) (slots' := 0) dX8_call_11 (c_X8_isNone hM hn) n30 ⟨by decide, by decide⟩ rfl rfl (by decide) (by decide) (Nat.le_of_ble_eq_true rfl) (fun _ _ r3 => ?_) (fun _ _ h => h.elim)
  obtain ⟨rfl, rfl⟩ := r3
  refine J_eq (st' := [.int (kb (!(decide (0 ≤ (nI t)) && decide ((nI t) ≤ nI (mS m) - 1)))), .ref (ka S 30 0)]) rfl rfl rfl ?_
  refine J_topeq 0 (by rw [none_f (n := mS m) (by omega) (by assumption)]; rfl) ?_
  refine J_if_eq 21 (by decide) dX8_call_14 (fun c4 => ?_) (fun c4 => ?_)
  rotate_left
  · exact absurd (by decide) c4
  refine J_iload_n 1 rfl dX8_call_21 ?_
  refine J_iload_n 2 rfl dX8_call_22 ?_
  refine J_icmp_eq 44 (by decide) dX8_call_23 (fun c5 => ?_) (fun c5 => ?_)
  · exfalso
    have Nc5 : s = t := (nI_eqL (a := s) (b := t) (by omega) (by omega)).mp c5
    omega
  have Nc5 : ¬ (s = t) := fun q => c5 ((nI_eqL (a := s) (b := t) (by omega) (by omega)).mpr q)
  refine J_iload_n 3 rfl dX8_call_26 ?_
  refine cv_8_145 (i := 0) (cells' := 0) (slots' := 0) dX8_call_27 (c_X8_rank) ⟨by decide, by decide⟩ rfl rfl (by decide) (by decide) (Nat.le_of_ble_eq_true rfl) (fun _ _ r6 => ?_) (fun _ _ h => h.elim)
  obtain ⟨rfl, rfl⟩ := r6
  refine J_eq (st' := [.int (wghtF u), .ref (ka S 30 0)]) rfl rfl rfl ?_
  refine J_if_lt 44 (by decide) dX8_call_30 (fun c7 => ?_) (fun c7 => ?_)
  · exfalso
    exact wght_ge hu c7
  refine J_iload 4 rfl dX8_call_33 ?_
  refine J_iconst (v := 1) (by decide) dX8_call_35 ?_
  refine J_bipush (v := 30) (by decide) dX8_call_36 ?_
  refine cv_8_91 (i := 0) (cells' := 0) (slots' := 0) dX8_call_38 (c_X8_in) ⟨by decide, by decide⟩ rfl rfl (by decide) (by decide) (Nat.le_of_ble_eq_true rfl) (fun _ _ r8 => ?_) (fun _ _ h => h.elim)
  obtain ⟨rfl, rfl⟩ := r8
  refine J_eq (st' := [.int (kb (decide (1 ≤ k) && decide (k ≤ 30))), .ref (ka S 30 0)]) rfl rfl rfl ?_
  refine J_topeq 1 (by rw [in_t hk]; rfl) ?_
  refine J_if_ne 48 (by decide) dX8_call_41 (fun c9 => ?_) (fun c9 => ?_)
  rotate_left
  · exact absurd c9 (by decide)
  refine J_aload_n 0 rfl dX8_call_48 ?_
  refine cv_8_190 (cells' := 0) (slots' := 0) dX8_call_49 (c_X8_isFull hM hn h150) n30 ⟨by decide, by decide⟩ rfl rfl (by decide) (by decide) (Nat.le_of_ble_eq_true rfl) (fun _ _ r10 => ?_) (fun _ _ h => h.elim)
  obtain ⟨rfl, rfl⟩ := r10
  refine J_eq (st' := [.int (kb (mFull m)), .ref (ka S 30 0)]) rfl rfl rfl ?_
  refine J_topeq 1 (by rw [hfu]; rfl) ?_
  refine J_if_eq 59 (by decide) dX8_call_52 (fun c11 => ?_) (fun c11 => ?_)
  · exact absurd c11 (by decide)
  refine J_iconst (v := 3) (by decide) dX8_call_55 ?_
  refine J_goto 60 (by decide) dX8_call_56 ?_
  refine cv_8_113 (cells' := 0) (slots' := 0) dX8_call_60 (c_X8_failsE (x := 3)) n30 ⟨by decide, by decide⟩ rfl rfl (by decide) (by decide) (Nat.le_of_ble_eq_true rfl) (fun _ _ r12 => ?_) (fun _ _ h => h.elim)
  obtain ⟨rfl, rfl⟩ := r12
  refine J_eq (st' := [.int (kb (decide (0 < (3 : Int32))))]) rfl rfl rfl ?_
  have hM13 := MR_cd hM (v := 3)
  refine J_topeq 1 (by decide) ?_
  refine J_if_eq 68 (by decide) dX8_call_63 (fun c14 => ?_) (fun c14 => ?_)
  · exact absurd c14 (by decide)
  refine J_iconst (v := 0) (by decide) dX8_call_66 ?_
  exact J_ireturn rfl (by first | rfl | assumption | simp [kb_nar]) dX8_call_67 (⟨rfl, _, _, rfl, hM13⟩) (by omega) (by omega)

set_option maxRecDepth 20000 in
set_option maxHeartbeats 1000000 in
theorem c_X8_call_e {cy : Nat → ClassId} {S : Nat → Nat → Nat} {I : kI} {L : kL} {R : kRf} {m : Mu} {cd : Int32} {s : Nat} {u k : Int32} (hM : MR m cd I L) {Ic : kI} {Lc : kL} {Rc : kRf} {LPc : List Nat} {rc : Nat → Nat} {ln qu : List Nat} {lg B : Nat} (hR : Rel m Ic Lc Rc LPc rc ln qu lg) (hI : Inv m B) (hB : B + 90000 < 2 ^ 30) (hs : s < mS m) : Con yX8_call cX8_call 6 (some .int) 7 0 0 cy [.ref (ka S 30 0), .int (nI s), .int (nI s), .int u, .int k] (wm cy S I L R) (fun r w' => r = some (.int 0) ∧ MX cy S R m 2 w') kF := by
  have hn : mN m := ⟨hR.1.1, hR.2.1.1⟩
  have h10 := hI.1
  have h150 := hI.2.2.1
  have hg0 := inv_g hI (by omega)
  have hkk := hI.2.2.2.1
  have hh := hI.2.2.2.2.1
  refine Con_of (by decide +kernel) (Nat.le_of_ble_eq_true rfl) ?_
  refine J_eq (lv' := [(0, .ref (ka S 30 0)), (1, .int (nI s)), (2, .int (nI s)), (3, .int u), (4, .int k)]) rfl rfl rfl ?_
  refine J_aload_n 0 rfl dX8_call_0 ?_
  refine J_aload_n 0 rfl dX8_call_1 ?_
  refine J_iload_n 1 rfl dX8_call_2 ?_
  refine cv_8_120 (cells' := 0) (slots' := 0) dX8_call_3 (c_X8_isNone hM hn) n30 ⟨by decide, by decide⟩ rfl rfl (by decide) (by decide) (Nat.le_of_ble_eq_true rfl) (fun _ _ r1 => ?_) (fun _ _ h => h.elim)
  obtain ⟨rfl, rfl⟩ := r1
  refine J_eq (st' := [.int (kb (!(decide (0 ≤ (nI s)) && decide ((nI s) ≤ nI (mS m) - 1)))), .ref (ka S 30 0)]) rfl rfl rfl ?_
  refine J_topeq 0 (by rw [none_f (n := mS m) (by omega) (by assumption)]; rfl) ?_
  refine J_if_ne 17 (by decide) dX8_call_6 (fun c2 => ?_) (fun c2 => ?_)
  · exact absurd (by decide) c2
  refine J_aload_n 0 rfl dX8_call_9 ?_
  refine J_iload_n 2 rfl dX8_call_10 ?_
  refine cv_8_120 (cells' := 0) (slots' := 0) dX8_call_11 (c_X8_isNone hM hn) n30 ⟨by decide, by decide⟩ rfl rfl (by decide) (by decide) (Nat.le_of_ble_eq_true rfl) (fun _ _ r3 => ?_) (fun _ _ h => h.elim)
  obtain ⟨rfl, rfl⟩ := r3
  refine J_eq (st' := [.int (kb (!(decide (0 ≤ (nI s)) && decide ((nI s) ≤ nI (mS m) - 1)))), .ref (ka S 30 0)]) rfl rfl rfl ?_
  refine J_topeq 0 (by rw [none_f (n := mS m) (by omega) (by assumption)]; rfl) ?_
  refine J_if_eq 21 (by decide) dX8_call_14 (fun c4 => ?_) (fun c4 => ?_)
  rotate_left
  · exact absurd (by decide) c4
  refine J_iload_n 1 rfl dX8_call_21 ?_
  refine J_iload_n 2 rfl dX8_call_22 ?_
  refine J_icmp_eq 44 (by decide) dX8_call_23 (fun c5 => ?_) (fun c5 => ?_)
  rotate_left
  · exfalso
    have Nc5 : ¬ (s = s) := fun q => c5 ((nI_eqL (a := s) (b := s) (by omega) (by omega)).mpr q)
    omega
  have Nc5 : s = s := (nI_eqL (a := s) (b := s) (by omega) (by omega)).mp c5
  refine J_iconst (v := 2) (by decide) dX8_call_44 ?_
  refine J_goto 60 (by decide) dX8_call_45 ?_
  refine cv_8_113 (cells' := 0) (slots' := 0) dX8_call_60 (c_X8_failsE (x := 2)) n30 ⟨by decide, by decide⟩ rfl rfl (by decide) (by decide) (Nat.le_of_ble_eq_true rfl) (fun _ _ r6 => ?_) (fun _ _ h => h.elim)
  obtain ⟨rfl, rfl⟩ := r6
  refine J_eq (st' := [.int (kb (decide (0 < (2 : Int32))))]) rfl rfl rfl ?_
  have hM7 := MR_cd hM (v := 2)
  refine J_topeq 1 (by decide) ?_
  refine J_if_eq 68 (by decide) dX8_call_63 (fun c8 => ?_) (fun c8 => ?_)
  · exact absurd c8 (by decide)
  refine J_iconst (v := 0) (by decide) dX8_call_66 ?_
  exact J_ireturn rfl (by first | rfl | assumption | simp [kb_nar]) dX8_call_67 (⟨rfl, _, _, rfl, hM7⟩) (by omega) (by omega)

set_option maxRecDepth 20000 in
set_option maxHeartbeats 1000000 in
theorem c_X8_call_x {cy : Nat → ClassId} {S : Nat → Nat → Nat} {I : kI} {L : kL} {R : kRf} {m : Mu} {cd : Int32} {x y u k : Int32} (hM : MR m cd I L) {Ic : kI} {Lc : kL} {Rc : kRf} {LPc : List Nat} {rc : Nat → Nat} {ln qu : List Nat} {lg B : Nat} (hR : Rel m Ic Lc Rc LPc rc ln qu lg) (hI : Inv m B) (hB : B + 90000 < 2 ^ 30) (hx : ∀ s, s < mS m → x ≠ nI s) : Con yX8_call cX8_call 6 (some .int) 7 0 0 cy [.ref (ka S 30 0), .int x, .int y, .int u, .int k] (wm cy S I L R) (fun r w' => r = some (.int 0) ∧ MX cy S R m 1 w') kF := by
  have hn : mN m := ⟨hR.1.1, hR.2.1.1⟩
  have h10 := hI.1
  have h150 := hI.2.2.1
  have hg0 := inv_g hI (by omega)
  have hkk := hI.2.2.2.1
  have hh := hI.2.2.2.2.1
  refine Con_of (by decide +kernel) (Nat.le_of_ble_eq_true rfl) ?_
  refine J_eq (lv' := [(0, .ref (ka S 30 0)), (1, .int x), (2, .int y), (3, .int u), (4, .int k)]) rfl rfl rfl ?_
  refine J_aload_n 0 rfl dX8_call_0 ?_
  refine J_aload_n 0 rfl dX8_call_1 ?_
  refine J_iload_n 1 rfl dX8_call_2 ?_
  refine cv_8_120 (cells' := 0) (slots' := 0) dX8_call_3 (c_X8_isNone hM hn) n30 ⟨by decide, by decide⟩ rfl rfl (by decide) (by decide) (Nat.le_of_ble_eq_true rfl) (fun _ _ r1 => ?_) (fun _ _ h => h.elim)
  obtain ⟨rfl, rfl⟩ := r1
  refine J_eq (st' := [.int (kb (!(decide (0 ≤ x) && decide (x ≤ nI (mS m) - 1)))), .ref (ka S 30 0)]) rfl rfl rfl ?_
  refine J_topeq 1 (by rw [none_t (n := mS m) (by omega) (by assumption)]; rfl) ?_
  refine J_if_ne 17 (by decide) dX8_call_6 (fun c2 => ?_) (fun c2 => ?_)
  rotate_left
  · exact absurd c2 (by decide)
  refine J_iconst (v := 1) (by decide) dX8_call_17 ?_
  refine J_goto 60 (by decide) dX8_call_18 ?_
  refine cv_8_113 (cells' := 0) (slots' := 0) dX8_call_60 (c_X8_failsE (x := 1)) n30 ⟨by decide, by decide⟩ rfl rfl (by decide) (by decide) (Nat.le_of_ble_eq_true rfl) (fun _ _ r3 => ?_) (fun _ _ h => h.elim)
  obtain ⟨rfl, rfl⟩ := r3
  refine J_eq (st' := [.int (kb (decide (0 < (1 : Int32))))]) rfl rfl rfl ?_
  have hM4 := MR_cd hM (v := 1)
  refine J_topeq 1 (by decide) ?_
  refine J_if_eq 68 (by decide) dX8_call_63 (fun c5 => ?_) (fun c5 => ?_)
  · exact absurd c5 (by decide)
  refine J_iconst (v := 0) (by decide) dX8_call_66 ?_
  exact J_ireturn rfl (by first | rfl | assumption | simp [kb_nar]) dX8_call_67 (⟨rfl, _, _, rfl, hM4⟩) (by omega) (by omega)

set_option maxRecDepth 20000 in
set_option maxHeartbeats 1000000 in
theorem c_X8_call_y {cy : Nat → ClassId} {S : Nat → Nat → Nat} {I : kI} {L : kL} {R : kRf} {m : Mu} {cd : Int32} {s : Nat} {x u k : Int32} (hM : MR m cd I L) {Ic : kI} {Lc : kL} {Rc : kRf} {LPc : List Nat} {rc : Nat → Nat} {ln qu : List Nat} {lg B : Nat} (hR : Rel m Ic Lc Rc LPc rc ln qu lg) (hI : Inv m B) (hB : B + 90000 < 2 ^ 30) (hs : s < mS m) (hx : ∀ s, s < mS m → x ≠ nI s) : Con yX8_call cX8_call 6 (some .int) 7 0 0 cy [.ref (ka S 30 0), .int (nI s), .int x, .int u, .int k] (wm cy S I L R) (fun r w' => r = some (.int 0) ∧ MX cy S R m 1 w') kF := by
  have hn : mN m := ⟨hR.1.1, hR.2.1.1⟩
  have h10 := hI.1
  have h150 := hI.2.2.1
  have hg0 := inv_g hI (by omega)
  have hkk := hI.2.2.2.1
  have hh := hI.2.2.2.2.1
  refine Con_of (by decide +kernel) (Nat.le_of_ble_eq_true rfl) ?_
  refine J_eq (lv' := [(0, .ref (ka S 30 0)), (1, .int (nI s)), (2, .int x), (3, .int u), (4, .int k)]) rfl rfl rfl ?_
  refine J_aload_n 0 rfl dX8_call_0 ?_
  refine J_aload_n 0 rfl dX8_call_1 ?_
  refine J_iload_n 1 rfl dX8_call_2 ?_
  refine cv_8_120 (cells' := 0) (slots' := 0) dX8_call_3 (c_X8_isNone hM hn) n30 ⟨by decide, by decide⟩ rfl rfl (by decide) (by decide) (Nat.le_of_ble_eq_true rfl) (fun _ _ r1 => ?_) (fun _ _ h => h.elim)
  obtain ⟨rfl, rfl⟩ := r1
  refine J_eq (st' := [.int (kb (!(decide (0 ≤ (nI s)) && decide ((nI s) ≤ nI (mS m) - 1)))), .ref (ka S 30 0)]) rfl rfl rfl ?_
  refine J_topeq 0 (by rw [none_f (n := mS m) (by omega) (by assumption)]; rfl) ?_
  refine J_if_ne 17 (by decide) dX8_call_6 (fun c2 => ?_) (fun c2 => ?_)
  · exact absurd (by decide) c2
  refine J_aload_n 0 rfl dX8_call_9 ?_
  refine J_iload_n 2 rfl dX8_call_10 ?_
  refine cv_8_120 (cells' := 0) (slots' := 0) dX8_call_11 (c_X8_isNone hM hn) n30 ⟨by decide, by decide⟩ rfl rfl (by decide) (by decide) (Nat.le_of_ble_eq_true rfl) (fun _ _ r3 => ?_) (fun _ _ h => h.elim)
  obtain ⟨rfl, rfl⟩ := r3
  refine J_eq (st' := [.int (kb (!(decide (0 ≤ x) && decide (x ≤ nI (mS m) - 1)))), .ref (ka S 30 0)]) rfl rfl rfl ?_
  refine J_topeq 1 (by rw [none_t (n := mS m) (by omega) (by assumption)]; rfl) ?_
  refine J_if_eq 21 (by decide) dX8_call_14 (fun c4 => ?_) (fun c4 => ?_)
  · exact absurd c4 (by decide)
  refine J_iconst (v := 1) (by decide) dX8_call_17 ?_
  refine J_goto 60 (by decide) dX8_call_18 ?_
  refine cv_8_113 (cells' := 0) (slots' := 0) dX8_call_60 (c_X8_failsE (x := 1)) n30 ⟨by decide, by decide⟩ rfl rfl (by decide) (by decide) (Nat.le_of_ble_eq_true rfl) (fun _ _ r5 => ?_) (fun _ _ h => h.elim)
  obtain ⟨rfl, rfl⟩ := r5
  refine J_eq (st' := [.int (kb (decide (0 < (1 : Int32))))]) rfl rfl rfl ?_
  have hM6 := MR_cd hM (v := 1)
  refine J_topeq 1 (by decide) ?_
  refine J_if_eq 68 (by decide) dX8_call_63 (fun c7 => ?_) (fun c7 => ?_)
  · exact absurd c7 (by decide)
  refine J_iconst (v := 0) (by decide) dX8_call_66 ?_
  exact J_ireturn rfl (by first | rfl | assumption | simp [kb_nar]) dX8_call_67 (⟨rfl, _, _, rfl, hM6⟩) (by omega) (by omega)

set_option maxRecDepth 20000 in
set_option maxHeartbeats 1000000 in
theorem c_X8_isOver {cy : Nat → ClassId} {S : Nat → Nat → Nat} {I : kI} {L : kL} {R : kRf} {m : Mu} {cd : Int32} {i : Nat} (hM : MR m cd I L) (hi : i < 150) : Con yX8_isOver cX8_isOver 2 (some .boolean) 0 0 0 cy [.ref (ka S 30 0), .int (nI i)] (wm cy S I L R) (kRet (some (.int (kb (decide (m.1 55 i = 101) || decide (m.1 55 i = 99))))) (wm cy S I L R)) kF := by
  refine Con_of (by decide +kernel) (Nat.le_of_ble_eq_true rfl) ?_
  refine J_eq (lv' := [(0, .ref (ka S 30 0)), (1, .int (nI i))]) rfl rfl rfl ?_
  refine J_aload_n 0 rfl dX8_isOver_0 ?_
  refine gf_8_48 n30 dX8_isOver_1 ?_
  refine J_iload_n 1 rfl dX8_isOver_4 ?_
  refine J_cald i 1 n55 rfl rfl (vp_in_nI (by omega) (by decide)) (nI_toNat (by omega)) dX8_isOver_5 ?_
  refine J_topeq (m.1 55 i) (hM.1 55 i rfl) ?_
  refine J_bipush (v := 101) (by decide) dX8_isOver_6 ?_
  refine J_icmp_eq 22 (by decide) dX8_isOver_8 (fun c1 => ?_) (fun c1 => ?_)
  · skip
    refine J_iconst (v := 1) (by decide) dX8_isOver_22 ?_
    refine J_goto 27 (by decide) dX8_isOver_23 ?_
    exact J_ireturn rfl (by first | rfl | assumption | simp [kb_nar]) dX8_isOver_27 (⟨by simp [*, kb], rfl⟩) (by omega) (by omega)
  · skip
    refine J_aload_n 0 rfl dX8_isOver_11 ?_
    refine gf_8_48 n30 dX8_isOver_12 ?_
    refine J_iload_n 1 rfl dX8_isOver_15 ?_
    refine J_cald i 1 n55 rfl rfl (vp_in_nI (by omega) (by decide)) (nI_toNat (by omega)) dX8_isOver_16 ?_
    refine J_topeq (m.1 55 i) (hM.1 55 i rfl) ?_
    refine J_bipush (v := 99) (by decide) dX8_isOver_17 ?_
    refine J_icmp_ne 26 (by decide) dX8_isOver_19 (fun c2 => ?_) (fun c2 => ?_)
    · skip
      refine J_iconst (v := 0) (by decide) dX8_isOver_26 ?_
      exact J_ireturn rfl (by first | rfl | assumption | simp [kb_nar]) dX8_isOver_27 (⟨by simp [*, kb], rfl⟩) (by omega) (by omega)
    · skip
      refine J_iconst (v := 1) (by decide) dX8_isOver_22 ?_
      refine J_goto 27 (by decide) dX8_isOver_23 ?_
      exact J_ireturn rfl (by first | rfl | assumption | simp [kb_nar]) dX8_isOver_27 (⟨by simp [*, kb], rfl⟩) (by omega) (by omega)

set_option maxRecDepth 20000 in
set_option maxHeartbeats 1000000 in
theorem c_X8_cancel_s {cy : Nat → ClassId} {S : Nat → Nat → Nat} {I : kI} {L : kL} {R : kRf} {m : Mu} {cd : Int32} {i : Nat} (hM : MR m cd I L) {Ic : kI} {Lc : kL} {Rc : kRf} {LPc : List Nat} {rc : Nat → Nat} {ln qu : List Nat} {lg B : Nat} (hR : Rel m Ic Lc Rc LPc rc ln qu lg) (hI : Inv m B) (hB : B + 90000 < 2 ^ 30) (hi : i < mC m) (hop : m.1 55 i = 115 ∨ m.1 55 i = 119) : Con yX8_cancel cX8_cancel 2 (some .int) 7 0 0 cy [.ref (ka S 30 0), .int (nI i)] (wm cy S I L R) (fun r w' => r = some (.int ((mSpeak (caM m i)).1 54 i)) ∧ MX cy S R (mSpeak (caM m i)) 0 w') kF := by
  have hn : mN m := ⟨hR.1.1, hR.2.1.1⟩
  have h10 := hI.1
  have h150 := hI.2.2.1
  have hg0 := inv_g hI (by omega)
  have hkk := hI.2.2.2.1
  have hh := hI.2.2.2.2.1
  refine Con_of (by decide +kernel) (Nat.le_of_ble_eq_true rfl) ?_
  refine J_eq (lv' := [(0, .ref (ka S 30 0)), (1, .int (nI i))]) rfl rfl rfl ?_
  refine J_aload_n 0 rfl dX8_cancel_0 ?_
  refine J_aload_n 0 rfl dX8_cancel_1 ?_
  refine J_iload_n 1 rfl dX8_cancel_2 ?_
  refine cv_8_197 (cells' := 0) (slots' := 0) dX8_cancel_3 (c_X8_isNoCall hM hn) n30 ⟨by decide, by decide⟩ rfl rfl (by decide) (by decide) (Nat.le_of_ble_eq_true rfl) (fun _ _ r1 => ?_) (fun _ _ h => h.elim)
  obtain ⟨rfl, rfl⟩ := r1
  refine J_eq (st' := [.int (kb (!(decide (0 ≤ (nI i)) && decide ((nI i) ≤ nI (mC m) - 1)))), .ref (ka S 30 0)]) rfl rfl rfl ?_
  refine J_topeq 0 (by rw [none_f (n := mC m) (by omega) (by assumption)]; rfl) ?_
  refine J_if_eq 13 (by decide) dX8_cancel_6 (fun c2 => ?_) (fun c2 => ?_)
  rotate_left
  · exact absurd (by decide) c2
  refine J_aload_n 0 rfl dX8_cancel_13 ?_
  refine J_iload_n 1 rfl dX8_cancel_14 ?_
  refine cv_8_200 (cells' := 0) (slots' := 0) dX8_cancel_15 (c_X8_isOver hM (by omega)) n30 ⟨by decide, by decide⟩ rfl rfl (by decide) (by decide) (Nat.le_of_ble_eq_true rfl) (fun _ _ r3 => ?_) (fun _ _ h => h.elim)
  obtain ⟨rfl, rfl⟩ := r3
  refine J_eq (st' := [.int (kb (decide (m.1 55 i = 101) || decide (m.1 55 i = 99))), .ref (ka S 30 0)]) rfl rfl rfl ?_
  refine J_topeq 0 (by rcases hop with h | h <;> rw [h] <;> rfl) ?_
  refine J_if_eq 25 (by decide) dX8_cancel_18 (fun c4 => ?_) (fun c4 => ?_)
  rotate_left
  · exact absurd (by decide) c4
  refine J_iconst (v := 0) (by decide) dX8_cancel_25 ?_
  refine cv_8_113 (cells' := 0) (slots' := 0) dX8_cancel_26 (c_X8_failsE (x := 0)) n30 ⟨by decide, by decide⟩ rfl rfl (by decide) (by decide) (Nat.le_of_ble_eq_true rfl) (fun _ _ r5 => ?_) (fun _ _ h => h.elim)
  obtain ⟨rfl, rfl⟩ := r5
  refine J_eq (st' := [.int (kb (decide (0 < (0 : Int32))))]) rfl rfl rfl ?_
  have hM6 := MR_cd hM (v := 0)
  refine J_topeq 0 (by decide) ?_
  refine J_if_eq 34 (by decide) dX8_cancel_29 (fun c7 => ?_) (fun c7 => ?_)
  rotate_left
  · exact absurd (by decide) c7
  refine J_aload_n 0 rfl dX8_cancel_34 ?_
  refine gf_8_48 n30 dX8_cancel_35 ?_
  refine J_iload_n 1 rfl dX8_cancel_38 ?_
  refine J_bipush (v := 99) (by decide) dX8_cancel_39 ?_
  refine J_cast (I' := ku (ku I 30 0 31 0) 55 0 i 99) (L' := L) (R' := R) i 1 n55 rfl rfl (vp_in_nI (by omega) (by decide)) (nI_toNat (by omega)) (by rw [ku_own]; rfl) (fun k' i' h => ⟨ku_row _ _ h, rfl, rfl⟩) dX8_cancel_41 ?_
  have hM8 := MR_ms (k := 55) (j := i) (v := 99) hM6 rfl
  refine J_aload_n 0 rfl dX8_cancel_42 ?_
  refine J_bipush (v := 99) (by decide) dX8_cancel_43 ?_
  refine J_iload_n 1 rfl dX8_cancel_45 ?_
  refine cv_8_162 (cells' := 0) (slots' := 0) dX8_cancel_46 (c_X8_logs hM8 hg0 (by decide)) n30 ⟨by decide, by decide⟩ rfl rfl (by decide) (by decide) (Nat.le_of_ble_eq_true rfl) (fun _ _ r10 => ?_) (fun _ _ h => h.elim)
  obtain ⟨rfl, I9, L9, rfl, hM9⟩ := r10
  refine J_eq (st' := []) rfl rfl rfl ?_
  refine J_aload_n 0 rfl dX8_cancel_49 ?_
  refine cv_8_117 (cells' := 0) (slots' := 0) dX8_cancel_50 (c_X8_letsSpeak (m := (caM m i)) hM9 (show mN (caM m i) from hn) (ca_inv hI hi hop) (by omega)) n30 ⟨by decide, by decide⟩ rfl rfl (by decide) (by decide) (Nat.le_of_ble_eq_true rfl) (fun _ _ r12 => ?_) (fun _ _ h => h.elim)
  obtain ⟨rfl, I11, L11, rfl, hM11⟩ := r12
  refine J_eq (st' := []) rfl rfl rfl ?_
  refine J_aload_n 0 rfl dX8_cancel_53 ?_
  refine gf_8_45 n30 dX8_cancel_54 ?_
  refine J_iload_n 1 rfl dX8_cancel_57 ?_
  refine J_iald i 0 n54 rfl rfl (vp_in_nI (by omega) (by decide)) (nI_toNat (by omega)) dX8_cancel_58 ?_
  refine J_topeq ((mSpeak (caM m i)).1 54 i) (hM11.1 54 i rfl) ?_
  exact J_ireturn rfl (by first | rfl | assumption | simp [kb_nar]) dX8_cancel_59 (⟨rfl, _, _, rfl, hM11⟩) (by omega) (by omega)

set_option maxRecDepth 20000 in
set_option maxHeartbeats 1000000 in
theorem c_X8_cancel_o {cy : Nat → ClassId} {S : Nat → Nat → Nat} {I : kI} {L : kL} {R : kRf} {m : Mu} {cd : Int32} {i : Nat} (hM : MR m cd I L) {Ic : kI} {Lc : kL} {Rc : kRf} {LPc : List Nat} {rc : Nat → Nat} {ln qu : List Nat} {lg B : Nat} (hR : Rel m Ic Lc Rc LPc rc ln qu lg) (hI : Inv m B) (hB : B + 90000 < 2 ^ 30) (hi : i < mC m) (h1 : m.1 55 i ≠ 119) (h2 : m.1 55 i ≠ 115) : Con yX8_cancel cX8_cancel 2 (some .int) 7 0 0 cy [.ref (ka S 30 0), .int (nI i)] (wm cy S I L R) (fun r w' => r = some (.int 0) ∧ MX cy S R m 2 w') kF := by
  have hn : mN m := ⟨hR.1.1, hR.2.1.1⟩
  have h10 := hI.1
  have h150 := hI.2.2.1
  have hg0 := inv_g hI (by omega)
  have hkk := hI.2.2.2.1
  have hh := hI.2.2.2.2.1
  refine Con_of (by decide +kernel) (Nat.le_of_ble_eq_true rfl) ?_
  refine J_eq (lv' := [(0, .ref (ka S 30 0)), (1, .int (nI i))]) rfl rfl rfl ?_
  refine J_aload_n 0 rfl dX8_cancel_0 ?_
  refine J_aload_n 0 rfl dX8_cancel_1 ?_
  refine J_iload_n 1 rfl dX8_cancel_2 ?_
  refine cv_8_197 (cells' := 0) (slots' := 0) dX8_cancel_3 (c_X8_isNoCall hM hn) n30 ⟨by decide, by decide⟩ rfl rfl (by decide) (by decide) (Nat.le_of_ble_eq_true rfl) (fun _ _ r1 => ?_) (fun _ _ h => h.elim)
  obtain ⟨rfl, rfl⟩ := r1
  refine J_eq (st' := [.int (kb (!(decide (0 ≤ (nI i)) && decide ((nI i) ≤ nI (mC m) - 1)))), .ref (ka S 30 0)]) rfl rfl rfl ?_
  refine J_topeq 0 (by rw [none_f (n := mC m) (by omega) (by assumption)]; rfl) ?_
  refine J_if_eq 13 (by decide) dX8_cancel_6 (fun c2 => ?_) (fun c2 => ?_)
  rotate_left
  · exact absurd (by decide) c2
  refine J_aload_n 0 rfl dX8_cancel_13 ?_
  refine J_iload_n 1 rfl dX8_cancel_14 ?_
  refine cv_8_200 (cells' := 0) (slots' := 0) dX8_cancel_15 (c_X8_isOver hM (by omega)) n30 ⟨by decide, by decide⟩ rfl rfl (by decide) (by decide) (Nat.le_of_ble_eq_true rfl) (fun _ _ r3 => ?_) (fun _ _ h => h.elim)
  obtain ⟨rfl, rfl⟩ := r3
  refine J_eq (st' := [.int (kb (decide (m.1 55 i = 101) || decide (m.1 55 i = 99))), .ref (ka S 30 0)]) rfl rfl rfl ?_
  refine J_topeq 1 (by rcases (hkk i hi).2.2 with h | h | h | h <;> first | exact absurd h h1 | exact absurd h h2 | (rw [h]; rfl)) ?_
  refine J_if_eq 25 (by decide) dX8_cancel_18 (fun c4 => ?_) (fun c4 => ?_)
  · exact absurd c4 (by decide)
  refine J_iconst (v := 2) (by decide) dX8_cancel_21 ?_
  refine J_goto 26 (by decide) dX8_cancel_22 ?_
  refine cv_8_113 (cells' := 0) (slots' := 0) dX8_cancel_26 (c_X8_failsE (x := 2)) n30 ⟨by decide, by decide⟩ rfl rfl (by decide) (by decide) (Nat.le_of_ble_eq_true rfl) (fun _ _ r5 => ?_) (fun _ _ h => h.elim)
  obtain ⟨rfl, rfl⟩ := r5
  refine J_eq (st' := [.int (kb (decide (0 < (2 : Int32))))]) rfl rfl rfl ?_
  have hM6 := MR_cd hM (v := 2)
  refine J_topeq 1 (by decide) ?_
  refine J_if_eq 34 (by decide) dX8_cancel_29 (fun c7 => ?_) (fun c7 => ?_)
  · exact absurd c7 (by decide)
  refine J_iconst (v := 0) (by decide) dX8_cancel_32 ?_
  exact J_ireturn rfl (by first | rfl | assumption | simp [kb_nar]) dX8_cancel_33 (⟨rfl, _, _, rfl, hM6⟩) (by omega) (by omega)

set_option maxRecDepth 20000 in
set_option maxHeartbeats 1000000 in
theorem c_X8_cancel_x {cy : Nat → ClassId} {S : Nat → Nat → Nat} {I : kI} {L : kL} {R : kRf} {m : Mu} {cd : Int32} {x : Int32} (hM : MR m cd I L) {Ic : kI} {Lc : kL} {Rc : kRf} {LPc : List Nat} {rc : Nat → Nat} {ln qu : List Nat} {lg B : Nat} (hR : Rel m Ic Lc Rc LPc rc ln qu lg) (hI : Inv m B) (hB : B + 90000 < 2 ^ 30) (hx : ∀ s, s < mC m → x ≠ nI s) : Con yX8_cancel cX8_cancel 2 (some .int) 7 0 0 cy [.ref (ka S 30 0), .int x] (wm cy S I L R) (fun r w' => r = some (.int 0) ∧ MX cy S R m 1 w') kF := by
  have hn : mN m := ⟨hR.1.1, hR.2.1.1⟩
  have h10 := hI.1
  have h150 := hI.2.2.1
  have hg0 := inv_g hI (by omega)
  have hkk := hI.2.2.2.1
  have hh := hI.2.2.2.2.1
  refine Con_of (by decide +kernel) (Nat.le_of_ble_eq_true rfl) ?_
  refine J_eq (lv' := [(0, .ref (ka S 30 0)), (1, .int x)]) rfl rfl rfl ?_
  refine J_aload_n 0 rfl dX8_cancel_0 ?_
  refine J_aload_n 0 rfl dX8_cancel_1 ?_
  refine J_iload_n 1 rfl dX8_cancel_2 ?_
  refine cv_8_197 (cells' := 0) (slots' := 0) dX8_cancel_3 (c_X8_isNoCall hM hn) n30 ⟨by decide, by decide⟩ rfl rfl (by decide) (by decide) (Nat.le_of_ble_eq_true rfl) (fun _ _ r1 => ?_) (fun _ _ h => h.elim)
  obtain ⟨rfl, rfl⟩ := r1
  refine J_eq (st' := [.int (kb (!(decide (0 ≤ x) && decide (x ≤ nI (mC m) - 1)))), .ref (ka S 30 0)]) rfl rfl rfl ?_
  refine J_topeq 1 (by rw [none_t (n := mC m) (by omega) (by assumption)]; rfl) ?_
  refine J_if_eq 13 (by decide) dX8_cancel_6 (fun c2 => ?_) (fun c2 => ?_)
  · exact absurd c2 (by decide)
  refine J_iconst (v := 1) (by decide) dX8_cancel_9 ?_
  refine J_goto 26 (by decide) dX8_cancel_10 ?_
  refine cv_8_113 (cells' := 0) (slots' := 0) dX8_cancel_26 (c_X8_failsE (x := 1)) n30 ⟨by decide, by decide⟩ rfl rfl (by decide) (by decide) (Nat.le_of_ble_eq_true rfl) (fun _ _ r3 => ?_) (fun _ _ h => h.elim)
  obtain ⟨rfl, rfl⟩ := r3
  refine J_eq (st' := [.int (kb (decide (0 < (1 : Int32))))]) rfl rfl rfl ?_
  have hM4 := MR_cd hM (v := 1)
  refine J_topeq 1 (by decide) ?_
  refine J_if_eq 34 (by decide) dX8_cancel_29 (fun c5 => ?_) (fun c5 => ?_)
  · exact absurd c5 (by decide)
  refine J_iconst (v := 0) (by decide) dX8_cancel_32 ?_
  exact J_ireturn rfl (by first | rfl | assumption | simp [kb_nar]) dX8_cancel_33 (⟨rfl, _, _, rfl, hM4⟩) (by omega) (by omega)

set_option maxRecDepth 20000 in
set_option maxHeartbeats 1000000 in
theorem c_X8_raise_s {cy : Nat → ClassId} {S : Nat → Nat → Nat} {I : kI} {L : kL} {R : kRf} {m : Mu} {cd : Int32} {i : Nat} {u : Int32} (hM : MR m cd I L) {Ic : kI} {Lc : kL} {Rc : kRf} {LPc : List Nat} {rc : Nat → Nat} {ln qu : List Nat} {lg B : Nat} (hR : Rel m Ic Lc Rc LPc rc ln qu lg) (hI : Inv m B) (hB : B + 90000 < 2 ^ 30) (hi : i < mC m) (hu : u = 100 ∨ u = 117 ∨ u = 115) (hop : m.1 55 i = 115 ∨ m.1 55 i = 119) (hlt : mRank m i < wghtF u) : Con yX8_raise cX8_raise 4 (some .char) 7 0 0 cy [.ref (ka S 30 0), .int (nI i), .int u] (wm cy S I L R) (fun r w' => r = some (.int (m.1 53 i)) ∧ MX cy S R (mSpeak (raM m i u)) 0 w') kF := by
  have hn : mN m := ⟨hR.1.1, hR.2.1.1⟩
  have h10 := hI.1
  have h150 := hI.2.2.1
  have hg0 := inv_g hI (by omega)
  have hkk := hI.2.2.2.1
  have hh := hI.2.2.2.2.1
  have hu4 : u = 100 ∨ u = 117 ∨ u = 115 ∨ u = 114 := by rcases hu with h | h | h <;> simp [h]
  have hnr := nar_ch (hkk i hi).2.1
  have hku := nar_u hu4
  refine Con_of (by decide +kernel) (Nat.le_of_ble_eq_true rfl) ?_
  refine J_eq (lv' := [(0, .ref (ka S 30 0)), (1, .int (nI i)), (2, .int u)]) rfl rfl rfl ?_
  refine J_aload_n 0 rfl dX8_raise_0 ?_
  refine J_aload_n 0 rfl dX8_raise_1 ?_
  refine J_iload_n 1 rfl dX8_raise_2 ?_
  refine cv_8_197 (cells' := 0) (slots' := 0) dX8_raise_3 (c_X8_isNoCall hM hn) n30 ⟨by decide, by decide⟩ rfl rfl (by decide) (by decide) (Nat.le_of_ble_eq_true rfl) (fun _ _ r1 => ?_) (fun _ _ h => h.elim)
  obtain ⟨rfl, rfl⟩ := r1
  refine J_eq (st' := [.int (kb (!(decide (0 ≤ (nI i)) && decide ((nI i) ≤ nI (mC m) - 1)))), .ref (ka S 30 0)]) rfl rfl rfl ?_
  refine J_topeq 0 (by rw [none_f (n := mC m) (by omega) (by assumption)]; rfl) ?_
  refine J_if_eq 13 (by decide) dX8_raise_6 (fun c2 => ?_) (fun c2 => ?_)
  rotate_left
  · exact absurd (by decide) c2
  refine J_iload_n 2 rfl dX8_raise_13 ?_
  refine cv_8_145 (i := 0) (cells' := 0) (slots' := 0) dX8_raise_14 (c_X8_rank) ⟨by decide, by decide⟩ rfl rfl (by decide) (by decide) (Nat.le_of_ble_eq_true rfl) (fun _ _ r3 => ?_) (fun _ _ h => h.elim)
  obtain ⟨rfl, rfl⟩ := r3
  refine J_eq (st' := [.int (wghtF u), .ref (ka S 30 0)]) rfl rfl rfl ?_
  refine J_iconst (v := 1) (by decide) dX8_raise_17 ?_
  refine J_icmp_ge 25 (by decide) dX8_raise_18 (fun c4 => ?_) (fun c4 => ?_)
  rotate_left
  · exfalso
    exact c4 (wght_ge1 hu)
  refine J_aload_n 0 rfl dX8_raise_25 ?_
  refine J_iload_n 1 rfl dX8_raise_26 ?_
  refine cv_8_200 (cells' := 0) (slots' := 0) dX8_raise_27 (c_X8_isOver hM (by omega)) n30 ⟨by decide, by decide⟩ rfl rfl (by decide) (by decide) (Nat.le_of_ble_eq_true rfl) (fun _ _ r5 => ?_) (fun _ _ h => h.elim)
  obtain ⟨rfl, rfl⟩ := r5
  refine J_eq (st' := [.int (kb (decide (m.1 55 i = 101) || decide (m.1 55 i = 99))), .ref (ka S 30 0)]) rfl rfl rfl ?_
  refine J_topeq 0 (by rcases hop with h | h <;> rw [h] <;> rfl) ?_
  refine J_if_ne 49 (by decide) dX8_raise_30 (fun c6 => ?_) (fun c6 => ?_)
  · exact absurd (by decide) c6
  refine J_aload_n 0 rfl dX8_raise_33 ?_
  refine gf_8_41 n30 dX8_raise_34 ?_
  refine J_iload_n 1 rfl dX8_raise_37 ?_
  refine J_cald i 1 n53 rfl rfl (vp_in_nI (by omega) (by decide)) (nI_toNat (by omega)) dX8_raise_38 ?_
  refine J_topeq (m.1 53 i) (hM.1 53 i rfl) ?_
  refine cv_8_145 (i := 0) (cells' := 0) (slots' := 0) dX8_raise_39 (c_X8_rank) ⟨by decide, by decide⟩ rfl rfl (by decide) (by decide) (Nat.le_of_ble_eq_true rfl) (fun _ _ r7 => ?_) (fun _ _ h => h.elim)
  obtain ⟨rfl, rfl⟩ := r7
  refine J_eq (st' := [.int (wghtF (m.1 53 i)), .ref (ka S 30 0)]) rfl rfl rfl ?_
  refine J_topeq (mRank m i) rfl ?_
  refine J_iload_n 2 rfl dX8_raise_42 ?_
  refine cv_8_145 (i := 0) (cells' := 0) (slots' := 0) dX8_raise_43 (c_X8_rank) ⟨by decide, by decide⟩ rfl rfl (by decide) (by decide) (Nat.le_of_ble_eq_true rfl) (fun _ _ r8 => ?_) (fun _ _ h => h.elim)
  obtain ⟨rfl, rfl⟩ := r8
  refine J_eq (st' := [.int (wghtF u), .int (mRank m i), .ref (ka S 30 0)]) rfl rfl rfl ?_
  refine J_icmp_lt 53 (by decide) dX8_raise_46 (fun c9 => ?_) (fun c9 => ?_)
  rotate_left
  · exfalso
    exact c9 hlt
  refine J_iconst (v := 0) (by decide) dX8_raise_53 ?_
  refine cv_8_113 (cells' := 0) (slots' := 0) dX8_raise_54 (c_X8_failsE (x := 0)) n30 ⟨by decide, by decide⟩ rfl rfl (by decide) (by decide) (Nat.le_of_ble_eq_true rfl) (fun _ _ r10 => ?_) (fun _ _ h => h.elim)
  obtain ⟨rfl, rfl⟩ := r10
  refine J_eq (st' := [.int (kb (decide (0 < (0 : Int32))))]) rfl rfl rfl ?_
  have hM11 := MR_cd hM (v := 0)
  refine J_topeq 0 (by decide) ?_
  refine J_if_eq 63 (by decide) dX8_raise_57 (fun c12 => ?_) (fun c12 => ?_)
  rotate_left
  · exact absurd (by decide) c12
  refine J_aload_n 0 rfl dX8_raise_63 ?_
  refine gf_8_41 n30 dX8_raise_64 ?_
  refine J_iload_n 1 rfl dX8_raise_67 ?_
  refine J_cald i 1 n53 rfl rfl (vp_in_nI (by omega) (by decide)) (nI_toNat (by omega)) dX8_raise_68 ?_
  refine J_topeq (m.1 53 i) (hM11.1 53 i rfl) ?_
  refine J_istore_n (lv' := [(0, .ref (ka S 30 0)), (1, .int (nI i)), (2, .int u), (3, .int (m.1 53 i))]) (by decide) rfl dX8_raise_69 ?_
  refine J_aload_n 0 rfl dX8_raise_70 ?_
  refine gf_8_41 n30 dX8_raise_71 ?_
  refine J_iload_n 1 rfl dX8_raise_74 ?_
  refine J_iload_n 2 rfl dX8_raise_75 ?_
  refine J_cast (I' := ku (ku I 30 0 31 0) 53 0 i u) (L' := L) (R' := R) i 1 n53 rfl rfl (vp_in_nI (by omega) (by decide)) (nI_toNat (by omega)) (by rw [hku]; rw [ku_own]; rfl) (fun k' i' h => ⟨ku_row _ _ h, rfl, rfl⟩) dX8_raise_76 ?_
  have hM13 := MR_ms (k := 53) (j := i) (v := u) hM11 rfl
  refine J_aload_n 0 rfl dX8_raise_77 ?_
  have hM14 : MR (raM m i u) 0 (ku (ku I 30 0 31 0) 53 0 i u) L := (by exact hM13)
  refine cv_8_117 (cells' := 0) (slots' := 0) dX8_raise_78 (c_X8_letsSpeak (m := (raM m i u)) hM14 hn (ra_inv (c := i) hI hu4) (by omega)) n30 ⟨by decide, by decide⟩ rfl rfl (by decide) (by decide) (Nat.le_of_ble_eq_true rfl) (fun _ _ r16 => ?_) (fun _ _ h => h.elim)
  obtain ⟨rfl, I15, L15, rfl, hM15⟩ := r16
  refine J_eq (st' := []) rfl rfl rfl ?_
  refine J_iload_n 3 rfl dX8_raise_81 ?_
  exact J_ireturn rfl (by first | rfl | assumption | simp [kb_nar]) dX8_raise_82 (⟨rfl, _, _, rfl, hM15⟩) (by omega) (by omega)

set_option maxRecDepth 20000 in
set_option maxHeartbeats 1000000 in
theorem c_X8_raise_x {cy : Nat → ClassId} {S : Nat → Nat → Nat} {I : kI} {L : kL} {R : kRf} {m : Mu} {cd : Int32} {x u : Int32} (hM : MR m cd I L) {Ic : kI} {Lc : kL} {Rc : kRf} {LPc : List Nat} {rc : Nat → Nat} {ln qu : List Nat} {lg B : Nat} (hR : Rel m Ic Lc Rc LPc rc ln qu lg) (hI : Inv m B) (hB : B + 90000 < 2 ^ 30) (hx : ∀ s, s < mC m → x ≠ nI s) : Con yX8_raise cX8_raise 4 (some .char) 7 0 0 cy [.ref (ka S 30 0), .int x, .int u] (wm cy S I L R) (fun r w' => r = some (.int 97) ∧ MX cy S R m 1 w') kF := by
  have hn : mN m := ⟨hR.1.1, hR.2.1.1⟩
  have h10 := hI.1
  have h150 := hI.2.2.1
  have hg0 := inv_g hI (by omega)
  have hkk := hI.2.2.2.1
  have hh := hI.2.2.2.2.1
  refine Con_of (by decide +kernel) (Nat.le_of_ble_eq_true rfl) ?_
  refine J_eq (lv' := [(0, .ref (ka S 30 0)), (1, .int x), (2, .int u)]) rfl rfl rfl ?_
  refine J_aload_n 0 rfl dX8_raise_0 ?_
  refine J_aload_n 0 rfl dX8_raise_1 ?_
  refine J_iload_n 1 rfl dX8_raise_2 ?_
  refine cv_8_197 (cells' := 0) (slots' := 0) dX8_raise_3 (c_X8_isNoCall hM hn) n30 ⟨by decide, by decide⟩ rfl rfl (by decide) (by decide) (Nat.le_of_ble_eq_true rfl) (fun _ _ r1 => ?_) (fun _ _ h => h.elim)
  obtain ⟨rfl, rfl⟩ := r1
  refine J_eq (st' := [.int (kb (!(decide (0 ≤ x) && decide (x ≤ nI (mC m) - 1)))), .ref (ka S 30 0)]) rfl rfl rfl ?_
  refine J_topeq 1 (by rw [none_t (n := mC m) (by omega) (by assumption)]; rfl) ?_
  refine J_if_eq 13 (by decide) dX8_raise_6 (fun c2 => ?_) (fun c2 => ?_)
  · exact absurd c2 (by decide)
  refine J_iconst (v := 1) (by decide) dX8_raise_9 ?_
  refine J_goto 54 (by decide) dX8_raise_10 ?_
  refine cv_8_113 (cells' := 0) (slots' := 0) dX8_raise_54 (c_X8_failsE (x := 1)) n30 ⟨by decide, by decide⟩ rfl rfl (by decide) (by decide) (Nat.le_of_ble_eq_true rfl) (fun _ _ r3 => ?_) (fun _ _ h => h.elim)
  obtain ⟨rfl, rfl⟩ := r3
  refine J_eq (st' := [.int (kb (decide (0 < (1 : Int32))))]) rfl rfl rfl ?_
  have hM4 := MR_cd hM (v := 1)
  refine J_topeq 1 (by decide) ?_
  refine J_if_eq 63 (by decide) dX8_raise_57 (fun c5 => ?_) (fun c5 => ?_)
  · exact absurd c5 (by decide)
  refine J_bipush (v := 97) (by decide) dX8_raise_60 ?_
  exact J_ireturn rfl (by first | rfl | assumption | simp [kb_nar]) dX8_raise_62 (⟨rfl, _, _, rfl, hM4⟩) (by omega) (by omega)

set_option maxRecDepth 20000 in
set_option maxHeartbeats 1000000 in
theorem c_X8_raise_u {cy : Nat → ClassId} {S : Nat → Nat → Nat} {I : kI} {L : kL} {R : kRf} {m : Mu} {cd : Int32} {i : Nat} {u : Int32} (hM : MR m cd I L) {Ic : kI} {Lc : kL} {Rc : kRf} {LPc : List Nat} {rc : Nat → Nat} {ln qu : List Nat} {lg B : Nat} (hR : Rel m Ic Lc Rc LPc rc ln qu lg) (hI : Inv m B) (hB : B + 90000 < 2 ^ 30) (hi : i < mC m) (hu : ¬ (u = 100 ∨ u = 117 ∨ u = 115)) : Con yX8_raise cX8_raise 4 (some .char) 7 0 0 cy [.ref (ka S 30 0), .int (nI i), .int u] (wm cy S I L R) (fun r w' => r = some (.int 97) ∧ MX cy S R m 2 w') kF := by
  have hn : mN m := ⟨hR.1.1, hR.2.1.1⟩
  have h10 := hI.1
  have h150 := hI.2.2.1
  have hg0 := inv_g hI (by omega)
  have hkk := hI.2.2.2.1
  have hh := hI.2.2.2.2.1
  refine Con_of (by decide +kernel) (Nat.le_of_ble_eq_true rfl) ?_
  refine J_eq (lv' := [(0, .ref (ka S 30 0)), (1, .int (nI i)), (2, .int u)]) rfl rfl rfl ?_
  refine J_aload_n 0 rfl dX8_raise_0 ?_
  refine J_aload_n 0 rfl dX8_raise_1 ?_
  refine J_iload_n 1 rfl dX8_raise_2 ?_
  refine cv_8_197 (cells' := 0) (slots' := 0) dX8_raise_3 (c_X8_isNoCall hM hn) n30 ⟨by decide, by decide⟩ rfl rfl (by decide) (by decide) (Nat.le_of_ble_eq_true rfl) (fun _ _ r1 => ?_) (fun _ _ h => h.elim)
  obtain ⟨rfl, rfl⟩ := r1
  refine J_eq (st' := [.int (kb (!(decide (0 ≤ (nI i)) && decide ((nI i) ≤ nI (mC m) - 1)))), .ref (ka S 30 0)]) rfl rfl rfl ?_
  refine J_topeq 0 (by rw [none_f (n := mC m) (by omega) (by assumption)]; rfl) ?_
  refine J_if_eq 13 (by decide) dX8_raise_6 (fun c2 => ?_) (fun c2 => ?_)
  rotate_left
  · exact absurd (by decide) c2
  refine J_iload_n 2 rfl dX8_raise_13 ?_
  refine cv_8_145 (i := 0) (cells' := 0) (slots' := 0) dX8_raise_14 (c_X8_rank) ⟨by decide, by decide⟩ rfl rfl (by decide) (by decide) (Nat.le_of_ble_eq_true rfl) (fun _ _ r3 => ?_) (fun _ _ h => h.elim)
  obtain ⟨rfl, rfl⟩ := r3
  refine J_eq (st' := [.int (wghtF u), .ref (ka S 30 0)]) rfl rfl rfl ?_
  refine J_iconst (v := 1) (by decide) dX8_raise_17 ?_
  refine J_icmp_ge 25 (by decide) dX8_raise_18 (fun c4 => ?_) (fun c4 => ?_)
  · exfalso
    exact wght_lt1 hu c4
  refine J_iconst (v := 2) (by decide) dX8_raise_21 ?_
  refine J_goto 54 (by decide) dX8_raise_22 ?_
  refine cv_8_113 (cells' := 0) (slots' := 0) dX8_raise_54 (c_X8_failsE (x := 2)) n30 ⟨by decide, by decide⟩ rfl rfl (by decide) (by decide) (Nat.le_of_ble_eq_true rfl) (fun _ _ r5 => ?_) (fun _ _ h => h.elim)
  obtain ⟨rfl, rfl⟩ := r5
  refine J_eq (st' := [.int (kb (decide (0 < (2 : Int32))))]) rfl rfl rfl ?_
  have hM6 := MR_cd hM (v := 2)
  refine J_topeq 1 (by decide) ?_
  refine J_if_eq 63 (by decide) dX8_raise_57 (fun c7 => ?_) (fun c7 => ?_)
  · exact absurd c7 (by decide)
  refine J_bipush (v := 97) (by decide) dX8_raise_60 ?_
  exact J_ireturn rfl (by first | rfl | assumption | simp [kb_nar]) dX8_raise_62 (⟨rfl, _, _, rfl, hM6⟩) (by omega) (by omega)

set_option maxRecDepth 20000 in
set_option maxHeartbeats 1000000 in
theorem c_X8_raise_o {cy : Nat → ClassId} {S : Nat → Nat → Nat} {I : kI} {L : kL} {R : kRf} {m : Mu} {cd : Int32} {i : Nat} {u : Int32} (hM : MR m cd I L) {Ic : kI} {Lc : kL} {Rc : kRf} {LPc : List Nat} {rc : Nat → Nat} {ln qu : List Nat} {lg B : Nat} (hR : Rel m Ic Lc Rc LPc rc ln qu lg) (hI : Inv m B) (hB : B + 90000 < 2 ^ 30) (hi : i < mC m) (hu : u = 100 ∨ u = 117 ∨ u = 115) (h1 : m.1 55 i ≠ 119) (h2 : m.1 55 i ≠ 115) : Con yX8_raise cX8_raise 4 (some .char) 7 0 0 cy [.ref (ka S 30 0), .int (nI i), .int u] (wm cy S I L R) (fun r w' => r = some (.int 97) ∧ MX cy S R m 3 w') kF := by
  have hn : mN m := ⟨hR.1.1, hR.2.1.1⟩
  have h10 := hI.1
  have h150 := hI.2.2.1
  have hg0 := inv_g hI (by omega)
  have hkk := hI.2.2.2.1
  have hh := hI.2.2.2.2.1
  refine Con_of (by decide +kernel) (Nat.le_of_ble_eq_true rfl) ?_
  refine J_eq (lv' := [(0, .ref (ka S 30 0)), (1, .int (nI i)), (2, .int u)]) rfl rfl rfl ?_
  refine J_aload_n 0 rfl dX8_raise_0 ?_
  refine J_aload_n 0 rfl dX8_raise_1 ?_
  refine J_iload_n 1 rfl dX8_raise_2 ?_
  refine cv_8_197 (cells' := 0) (slots' := 0) dX8_raise_3 (c_X8_isNoCall hM hn) n30 ⟨by decide, by decide⟩ rfl rfl (by decide) (by decide) (Nat.le_of_ble_eq_true rfl) (fun _ _ r1 => ?_) (fun _ _ h => h.elim)
  obtain ⟨rfl, rfl⟩ := r1
  refine J_eq (st' := [.int (kb (!(decide (0 ≤ (nI i)) && decide ((nI i) ≤ nI (mC m) - 1)))), .ref (ka S 30 0)]) rfl rfl rfl ?_
  refine J_topeq 0 (by rw [none_f (n := mC m) (by omega) (by assumption)]; rfl) ?_
  refine J_if_eq 13 (by decide) dX8_raise_6 (fun c2 => ?_) (fun c2 => ?_)
  rotate_left
  · exact absurd (by decide) c2
  refine J_iload_n 2 rfl dX8_raise_13 ?_
  refine cv_8_145 (i := 0) (cells' := 0) (slots' := 0) dX8_raise_14 (c_X8_rank) ⟨by decide, by decide⟩ rfl rfl (by decide) (by decide) (Nat.le_of_ble_eq_true rfl) (fun _ _ r3 => ?_) (fun _ _ h => h.elim)
  obtain ⟨rfl, rfl⟩ := r3
  refine J_eq (st' := [.int (wghtF u), .ref (ka S 30 0)]) rfl rfl rfl ?_
  refine J_iconst (v := 1) (by decide) dX8_raise_17 ?_
  refine J_icmp_ge 25 (by decide) dX8_raise_18 (fun c4 => ?_) (fun c4 => ?_)
  rotate_left
  · exfalso
    exact c4 (wght_ge1 hu)
  refine J_aload_n 0 rfl dX8_raise_25 ?_
  refine J_iload_n 1 rfl dX8_raise_26 ?_
  refine cv_8_200 (cells' := 0) (slots' := 0) dX8_raise_27 (c_X8_isOver hM (by omega)) n30 ⟨by decide, by decide⟩ rfl rfl (by decide) (by decide) (Nat.le_of_ble_eq_true rfl) (fun _ _ r5 => ?_) (fun _ _ h => h.elim)
  obtain ⟨rfl, rfl⟩ := r5
  refine J_eq (st' := [.int (kb (decide (m.1 55 i = 101) || decide (m.1 55 i = 99))), .ref (ka S 30 0)]) rfl rfl rfl ?_
  refine J_topeq 1 (by rcases (hkk i hi).2.2 with h | h | h | h <;> first | exact absurd h h1 | exact absurd h h2 | (rw [h]; rfl)) ?_
  refine J_if_ne 49 (by decide) dX8_raise_30 (fun c6 => ?_) (fun c6 => ?_)
  rotate_left
  · exact absurd c6 (by decide)
  refine J_iconst (v := 3) (by decide) dX8_raise_49 ?_
  refine J_goto 54 (by decide) dX8_raise_50 ?_
  refine cv_8_113 (cells' := 0) (slots' := 0) dX8_raise_54 (c_X8_failsE (x := 3)) n30 ⟨by decide, by decide⟩ rfl rfl (by decide) (by decide) (Nat.le_of_ble_eq_true rfl) (fun _ _ r7 => ?_) (fun _ _ h => h.elim)
  obtain ⟨rfl, rfl⟩ := r7
  refine J_eq (st' := [.int (kb (decide (0 < (3 : Int32))))]) rfl rfl rfl ?_
  have hM8 := MR_cd hM (v := 3)
  refine J_topeq 1 (by decide) ?_
  refine J_if_eq 63 (by decide) dX8_raise_57 (fun c9 => ?_) (fun c9 => ?_)
  · exact absurd c9 (by decide)
  refine J_bipush (v := 97) (by decide) dX8_raise_60 ?_
  exact J_ireturn rfl (by first | rfl | assumption | simp [kb_nar]) dX8_raise_62 (⟨rfl, _, _, rfl, hM8⟩) (by omega) (by omega)

set_option maxRecDepth 20000 in
set_option maxHeartbeats 1000000 in
theorem c_X8_raise_l {cy : Nat → ClassId} {S : Nat → Nat → Nat} {I : kI} {L : kL} {R : kRf} {m : Mu} {cd : Int32} {i : Nat} {u : Int32} (hM : MR m cd I L) {Ic : kI} {Lc : kL} {Rc : kRf} {LPc : List Nat} {rc : Nat → Nat} {ln qu : List Nat} {lg B : Nat} (hR : Rel m Ic Lc Rc LPc rc ln qu lg) (hI : Inv m B) (hB : B + 90000 < 2 ^ 30) (hi : i < mC m) (hu : u = 100 ∨ u = 117 ∨ u = 115) (hop : m.1 55 i = 119 ∨ m.1 55 i = 115) (hlt : ¬ mRank m i < wghtF u) : Con yX8_raise cX8_raise 4 (some .char) 7 0 0 cy [.ref (ka S 30 0), .int (nI i), .int u] (wm cy S I L R) (fun r w' => r = some (.int 97) ∧ MX cy S R m 3 w') kF := by
  have hn : mN m := ⟨hR.1.1, hR.2.1.1⟩
  have h10 := hI.1
  have h150 := hI.2.2.1
  have hg0 := inv_g hI (by omega)
  have hkk := hI.2.2.2.1
  have hh := hI.2.2.2.2.1
  refine Con_of (by decide +kernel) (Nat.le_of_ble_eq_true rfl) ?_
  refine J_eq (lv' := [(0, .ref (ka S 30 0)), (1, .int (nI i)), (2, .int u)]) rfl rfl rfl ?_
  refine J_aload_n 0 rfl dX8_raise_0 ?_
  refine J_aload_n 0 rfl dX8_raise_1 ?_
  refine J_iload_n 1 rfl dX8_raise_2 ?_
  refine cv_8_197 (cells' := 0) (slots' := 0) dX8_raise_3 (c_X8_isNoCall hM hn) n30 ⟨by decide, by decide⟩ rfl rfl (by decide) (by decide) (Nat.le_of_ble_eq_true rfl) (fun _ _ r1 => ?_) (fun _ _ h => h.elim)
  obtain ⟨rfl, rfl⟩ := r1
  refine J_eq (st' := [.int (kb (!(decide (0 ≤ (nI i)) && decide ((nI i) ≤ nI (mC m) - 1)))), .ref (ka S 30 0)]) rfl rfl rfl ?_
  refine J_topeq 0 (by rw [none_f (n := mC m) (by omega) (by assumption)]; rfl) ?_
  refine J_if_eq 13 (by decide) dX8_raise_6 (fun c2 => ?_) (fun c2 => ?_)
  rotate_left
  · exact absurd (by decide) c2
  refine J_iload_n 2 rfl dX8_raise_13 ?_
  refine cv_8_145 (i := 0) (cells' := 0) (slots' := 0) dX8_raise_14 (c_X8_rank) ⟨by decide, by decide⟩ rfl rfl (by decide) (by decide) (Nat.le_of_ble_eq_true rfl) (fun _ _ r3 => ?_) (fun _ _ h => h.elim)
  obtain ⟨rfl, rfl⟩ := r3
  refine J_eq (st' := [.int (wghtF u), .ref (ka S 30 0)]) rfl rfl rfl ?_
  refine J_iconst (v := 1) (by decide) dX8_raise_17 ?_
  refine J_icmp_ge 25 (by decide) dX8_raise_18 (fun c4 => ?_) (fun c4 => ?_)
  rotate_left
  · exfalso
    exact c4 (wght_ge1 hu)
  refine J_aload_n 0 rfl dX8_raise_25 ?_
  refine J_iload_n 1 rfl dX8_raise_26 ?_
  refine cv_8_200 (cells' := 0) (slots' := 0) dX8_raise_27 (c_X8_isOver hM (by omega)) n30 ⟨by decide, by decide⟩ rfl rfl (by decide) (by decide) (Nat.le_of_ble_eq_true rfl) (fun _ _ r5 => ?_) (fun _ _ h => h.elim)
  obtain ⟨rfl, rfl⟩ := r5
  refine J_eq (st' := [.int (kb (decide (m.1 55 i = 101) || decide (m.1 55 i = 99))), .ref (ka S 30 0)]) rfl rfl rfl ?_
  refine J_topeq 0 (by rcases hop with h | h <;> rw [h] <;> rfl) ?_
  refine J_if_ne 49 (by decide) dX8_raise_30 (fun c6 => ?_) (fun c6 => ?_)
  · exact absurd (by decide) c6
  refine J_aload_n 0 rfl dX8_raise_33 ?_
  refine gf_8_41 n30 dX8_raise_34 ?_
  refine J_iload_n 1 rfl dX8_raise_37 ?_
  refine J_cald i 1 n53 rfl rfl (vp_in_nI (by omega) (by decide)) (nI_toNat (by omega)) dX8_raise_38 ?_
  refine J_topeq (m.1 53 i) (hM.1 53 i rfl) ?_
  refine cv_8_145 (i := 0) (cells' := 0) (slots' := 0) dX8_raise_39 (c_X8_rank) ⟨by decide, by decide⟩ rfl rfl (by decide) (by decide) (Nat.le_of_ble_eq_true rfl) (fun _ _ r7 => ?_) (fun _ _ h => h.elim)
  obtain ⟨rfl, rfl⟩ := r7
  refine J_eq (st' := [.int (wghtF (m.1 53 i)), .ref (ka S 30 0)]) rfl rfl rfl ?_
  refine J_topeq (mRank m i) rfl ?_
  refine J_iload_n 2 rfl dX8_raise_42 ?_
  refine cv_8_145 (i := 0) (cells' := 0) (slots' := 0) dX8_raise_43 (c_X8_rank) ⟨by decide, by decide⟩ rfl rfl (by decide) (by decide) (Nat.le_of_ble_eq_true rfl) (fun _ _ r8 => ?_) (fun _ _ h => h.elim)
  obtain ⟨rfl, rfl⟩ := r8
  refine J_eq (st' := [.int (wghtF u), .int (mRank m i), .ref (ka S 30 0)]) rfl rfl rfl ?_
  refine J_icmp_lt 53 (by decide) dX8_raise_46 (fun c9 => ?_) (fun c9 => ?_)
  · exfalso
    exact hlt c9
  refine J_iconst (v := 3) (by decide) dX8_raise_49 ?_
  refine J_goto 54 (by decide) dX8_raise_50 ?_
  refine cv_8_113 (cells' := 0) (slots' := 0) dX8_raise_54 (c_X8_failsE (x := 3)) n30 ⟨by decide, by decide⟩ rfl rfl (by decide) (by decide) (Nat.le_of_ble_eq_true rfl) (fun _ _ r10 => ?_) (fun _ _ h => h.elim)
  obtain ⟨rfl, rfl⟩ := r10
  refine J_eq (st' := [.int (kb (decide (0 < (3 : Int32))))]) rfl rfl rfl ?_
  have hM11 := MR_cd hM (v := 3)
  refine J_topeq 1 (by decide) ?_
  refine J_if_eq 63 (by decide) dX8_raise_57 (fun c12 => ?_) (fun c12 => ?_)
  · exact absurd c12 (by decide)
  refine J_bipush (v := 97) (by decide) dX8_raise_60 ?_
  exact J_ireturn rfl (by first | rfl | assumption | simp [kb_nar]) dX8_raise_62 (⟨rfl, _, _, rfl, hM11⟩) (by omega) (by omega)

set_option maxRecDepth 20000 in
set_option maxHeartbeats 1000000 in
theorem c_X8_stateOf_s {cy : Nat → ClassId} {S : Nat → Nat → Nat} {I : kI} {L : kL} {R : kRf} {m : Mu} {cd : Int32} {i : Nat} (hM : MR m cd I L) {Ic : kI} {Lc : kL} {Rc : kRf} {LPc : List Nat} {rc : Nat → Nat} {ln qu : List Nat} {lg B : Nat} (hR : Rel m Ic Lc Rc LPc rc ln qu lg) (hI : Inv m B) (hB : B + 90000 < 2 ^ 30) (hi : i < mC m) : Con yX8_stateOf cX8_stateOf 2 (some .char) 7 0 0 cy [.ref (ka S 30 0), .int (nI i)] (wm cy S I L R) (fun r w' => r = some (.int (m.1 55 i)) ∧ MX cy S R m 0 w') kF := by
  have hn : mN m := ⟨hR.1.1, hR.2.1.1⟩
  have h10 := hI.1
  have h150 := hI.2.2.1
  have hg0 := inv_g hI (by omega)
  have hkk := hI.2.2.2.1
  have hh := hI.2.2.2.2.1
  have hnr := nar_st (hkk i hi).2.2
  refine Con_of (by decide +kernel) (Nat.le_of_ble_eq_true rfl) ?_
  refine J_eq (lv' := [(0, .ref (ka S 30 0)), (1, .int (nI i))]) rfl rfl rfl ?_
  refine J_aload_n 0 rfl dX8_stateOf_0 ?_
  refine J_aload_n 0 rfl dX8_stateOf_1 ?_
  refine J_iload_n 1 rfl dX8_stateOf_2 ?_
  refine cv_8_197 (cells' := 0) (slots' := 0) dX8_stateOf_3 (c_X8_isNoCall hM hn) n30 ⟨by decide, by decide⟩ rfl rfl (by decide) (by decide) (Nat.le_of_ble_eq_true rfl) (fun _ _ r1 => ?_) (fun _ _ h => h.elim)
  obtain ⟨rfl, rfl⟩ := r1
  refine J_eq (st' := [.int (kb (!(decide (0 ≤ (nI i)) && decide ((nI i) ≤ nI (mC m) - 1)))), .ref (ka S 30 0)]) rfl rfl rfl ?_
  refine J_topeq 0 (by rw [none_f (n := mC m) (by omega) (by assumption)]; rfl) ?_
  refine J_if_eq 13 (by decide) dX8_stateOf_6 (fun c2 => ?_) (fun c2 => ?_)
  rotate_left
  · exact absurd (by decide) c2
  refine J_iconst (v := 0) (by decide) dX8_stateOf_13 ?_
  refine cv_8_113 (cells' := 0) (slots' := 0) dX8_stateOf_14 (c_X8_failsE (x := 0)) n30 ⟨by decide, by decide⟩ rfl rfl (by decide) (by decide) (Nat.le_of_ble_eq_true rfl) (fun _ _ r3 => ?_) (fun _ _ h => h.elim)
  obtain ⟨rfl, rfl⟩ := r3
  refine J_eq (st' := [.int (kb (decide (0 < (0 : Int32))))]) rfl rfl rfl ?_
  have hM4 := MR_cd hM (v := 0)
  refine J_topeq 0 (by decide) ?_
  refine J_if_eq 25 (by decide) dX8_stateOf_17 (fun c5 => ?_) (fun c5 => ?_)
  rotate_left
  · exact absurd (by decide) c5
  refine J_aload_n 0 rfl dX8_stateOf_25 ?_
  refine gf_8_48 n30 dX8_stateOf_26 ?_
  refine J_iload_n 1 rfl dX8_stateOf_29 ?_
  refine J_cald i 1 n55 rfl rfl (vp_in_nI (by omega) (by decide)) (nI_toNat (by omega)) dX8_stateOf_30 ?_
  refine J_topeq (m.1 55 i) (hM4.1 55 i rfl) ?_
  exact J_ireturn rfl (by first | rfl | assumption | simp [kb_nar]) dX8_stateOf_31 (⟨rfl, _, _, rfl, hM4⟩) (by omega) (by omega)

set_option maxRecDepth 20000 in
set_option maxHeartbeats 1000000 in
theorem c_X8_stateOf_x {cy : Nat → ClassId} {S : Nat → Nat → Nat} {I : kI} {L : kL} {R : kRf} {m : Mu} {cd : Int32} {x : Int32} (hM : MR m cd I L) {Ic : kI} {Lc : kL} {Rc : kRf} {LPc : List Nat} {rc : Nat → Nat} {ln qu : List Nat} {lg B : Nat} (hR : Rel m Ic Lc Rc LPc rc ln qu lg) (hI : Inv m B) (hB : B + 90000 < 2 ^ 30) (hx : ∀ s, s < mC m → x ≠ nI s) : Con yX8_stateOf cX8_stateOf 2 (some .char) 7 0 0 cy [.ref (ka S 30 0), .int x] (wm cy S I L R) (fun r w' => r = some (.int 97) ∧ MX cy S R m 1 w') kF := by
  have hn : mN m := ⟨hR.1.1, hR.2.1.1⟩
  have h10 := hI.1
  have h150 := hI.2.2.1
  have hg0 := inv_g hI (by omega)
  have hkk := hI.2.2.2.1
  have hh := hI.2.2.2.2.1
  refine Con_of (by decide +kernel) (Nat.le_of_ble_eq_true rfl) ?_
  refine J_eq (lv' := [(0, .ref (ka S 30 0)), (1, .int x)]) rfl rfl rfl ?_
  refine J_aload_n 0 rfl dX8_stateOf_0 ?_
  refine J_aload_n 0 rfl dX8_stateOf_1 ?_
  refine J_iload_n 1 rfl dX8_stateOf_2 ?_
  refine cv_8_197 (cells' := 0) (slots' := 0) dX8_stateOf_3 (c_X8_isNoCall hM hn) n30 ⟨by decide, by decide⟩ rfl rfl (by decide) (by decide) (Nat.le_of_ble_eq_true rfl) (fun _ _ r1 => ?_) (fun _ _ h => h.elim)
  obtain ⟨rfl, rfl⟩ := r1
  refine J_eq (st' := [.int (kb (!(decide (0 ≤ x) && decide (x ≤ nI (mC m) - 1)))), .ref (ka S 30 0)]) rfl rfl rfl ?_
  refine J_topeq 1 (by rw [none_t (n := mC m) (by omega) (by assumption)]; rfl) ?_
  refine J_if_eq 13 (by decide) dX8_stateOf_6 (fun c2 => ?_) (fun c2 => ?_)
  · exact absurd c2 (by decide)
  refine J_iconst (v := 1) (by decide) dX8_stateOf_9 ?_
  refine J_goto 14 (by decide) dX8_stateOf_10 ?_
  refine cv_8_113 (cells' := 0) (slots' := 0) dX8_stateOf_14 (c_X8_failsE (x := 1)) n30 ⟨by decide, by decide⟩ rfl rfl (by decide) (by decide) (Nat.le_of_ble_eq_true rfl) (fun _ _ r3 => ?_) (fun _ _ h => h.elim)
  obtain ⟨rfl, rfl⟩ := r3
  refine J_eq (st' := [.int (kb (decide (0 < (1 : Int32))))]) rfl rfl rfl ?_
  have hM4 := MR_cd hM (v := 1)
  refine J_topeq 1 (by decide) ?_
  refine J_if_eq 25 (by decide) dX8_stateOf_17 (fun c5 => ?_) (fun c5 => ?_)
  · exact absurd c5 (by decide)
  refine J_bipush (v := 97) (by decide) dX8_stateOf_20 ?_
  refine J_goto 31 (by decide) dX8_stateOf_22 ?_
  exact J_ireturn rfl (by first | rfl | assumption | simp [kb_nar]) dX8_stateOf_31 (⟨rfl, _, _, rfl, hM4⟩) (by omega) (by omega)

set_option maxRecDepth 20000 in
set_option maxHeartbeats 1000000 in
theorem c_X8_urgencyOf_s {cy : Nat → ClassId} {S : Nat → Nat → Nat} {I : kI} {L : kL} {R : kRf} {m : Mu} {cd : Int32} {i : Nat} (hM : MR m cd I L) {Ic : kI} {Lc : kL} {Rc : kRf} {LPc : List Nat} {rc : Nat → Nat} {ln qu : List Nat} {lg B : Nat} (hR : Rel m Ic Lc Rc LPc rc ln qu lg) (hI : Inv m B) (hB : B + 90000 < 2 ^ 30) (hi : i < mC m) : Con yX8_urgencyOf cX8_urgencyOf 2 (some .char) 7 0 0 cy [.ref (ka S 30 0), .int (nI i)] (wm cy S I L R) (fun r w' => r = some (.int (m.1 53 i)) ∧ MX cy S R m 0 w') kF := by
  have hn : mN m := ⟨hR.1.1, hR.2.1.1⟩
  have h10 := hI.1
  have h150 := hI.2.2.1
  have hg0 := inv_g hI (by omega)
  have hkk := hI.2.2.2.1
  have hh := hI.2.2.2.2.1
  have hnr := nar_ch (hkk i hi).2.1
  refine Con_of (by decide +kernel) (Nat.le_of_ble_eq_true rfl) ?_
  refine J_eq (lv' := [(0, .ref (ka S 30 0)), (1, .int (nI i))]) rfl rfl rfl ?_
  refine J_aload_n 0 rfl dX8_urgencyOf_0 ?_
  refine J_aload_n 0 rfl dX8_urgencyOf_1 ?_
  refine J_iload_n 1 rfl dX8_urgencyOf_2 ?_
  refine cv_8_197 (cells' := 0) (slots' := 0) dX8_urgencyOf_3 (c_X8_isNoCall hM hn) n30 ⟨by decide, by decide⟩ rfl rfl (by decide) (by decide) (Nat.le_of_ble_eq_true rfl) (fun _ _ r1 => ?_) (fun _ _ h => h.elim)
  obtain ⟨rfl, rfl⟩ := r1
  refine J_eq (st' := [.int (kb (!(decide (0 ≤ (nI i)) && decide ((nI i) ≤ nI (mC m) - 1)))), .ref (ka S 30 0)]) rfl rfl rfl ?_
  refine J_topeq 0 (by rw [none_f (n := mC m) (by omega) (by assumption)]; rfl) ?_
  refine J_if_eq 13 (by decide) dX8_urgencyOf_6 (fun c2 => ?_) (fun c2 => ?_)
  rotate_left
  · exact absurd (by decide) c2
  refine J_iconst (v := 0) (by decide) dX8_urgencyOf_13 ?_
  refine cv_8_113 (cells' := 0) (slots' := 0) dX8_urgencyOf_14 (c_X8_failsE (x := 0)) n30 ⟨by decide, by decide⟩ rfl rfl (by decide) (by decide) (Nat.le_of_ble_eq_true rfl) (fun _ _ r3 => ?_) (fun _ _ h => h.elim)
  obtain ⟨rfl, rfl⟩ := r3
  refine J_eq (st' := [.int (kb (decide (0 < (0 : Int32))))]) rfl rfl rfl ?_
  have hM4 := MR_cd hM (v := 0)
  refine J_topeq 0 (by decide) ?_
  refine J_if_eq 25 (by decide) dX8_urgencyOf_17 (fun c5 => ?_) (fun c5 => ?_)
  rotate_left
  · exact absurd (by decide) c5
  refine J_aload_n 0 rfl dX8_urgencyOf_25 ?_
  refine gf_8_41 n30 dX8_urgencyOf_26 ?_
  refine J_iload_n 1 rfl dX8_urgencyOf_29 ?_
  refine J_cald i 1 n53 rfl rfl (vp_in_nI (by omega) (by decide)) (nI_toNat (by omega)) dX8_urgencyOf_30 ?_
  refine J_topeq (m.1 53 i) (hM4.1 53 i rfl) ?_
  exact J_ireturn rfl (by first | rfl | assumption | simp [kb_nar]) dX8_urgencyOf_31 (⟨rfl, _, _, rfl, hM4⟩) (by omega) (by omega)

set_option maxRecDepth 20000 in
set_option maxHeartbeats 1000000 in
theorem c_X8_urgencyOf_x {cy : Nat → ClassId} {S : Nat → Nat → Nat} {I : kI} {L : kL} {R : kRf} {m : Mu} {cd : Int32} {x : Int32} (hM : MR m cd I L) {Ic : kI} {Lc : kL} {Rc : kRf} {LPc : List Nat} {rc : Nat → Nat} {ln qu : List Nat} {lg B : Nat} (hR : Rel m Ic Lc Rc LPc rc ln qu lg) (hI : Inv m B) (hB : B + 90000 < 2 ^ 30) (hx : ∀ s, s < mC m → x ≠ nI s) : Con yX8_urgencyOf cX8_urgencyOf 2 (some .char) 7 0 0 cy [.ref (ka S 30 0), .int x] (wm cy S I L R) (fun r w' => r = some (.int 97) ∧ MX cy S R m 1 w') kF := by
  have hn : mN m := ⟨hR.1.1, hR.2.1.1⟩
  have h10 := hI.1
  have h150 := hI.2.2.1
  have hg0 := inv_g hI (by omega)
  have hkk := hI.2.2.2.1
  have hh := hI.2.2.2.2.1
  refine Con_of (by decide +kernel) (Nat.le_of_ble_eq_true rfl) ?_
  refine J_eq (lv' := [(0, .ref (ka S 30 0)), (1, .int x)]) rfl rfl rfl ?_
  refine J_aload_n 0 rfl dX8_urgencyOf_0 ?_
  refine J_aload_n 0 rfl dX8_urgencyOf_1 ?_
  refine J_iload_n 1 rfl dX8_urgencyOf_2 ?_
  refine cv_8_197 (cells' := 0) (slots' := 0) dX8_urgencyOf_3 (c_X8_isNoCall hM hn) n30 ⟨by decide, by decide⟩ rfl rfl (by decide) (by decide) (Nat.le_of_ble_eq_true rfl) (fun _ _ r1 => ?_) (fun _ _ h => h.elim)
  obtain ⟨rfl, rfl⟩ := r1
  refine J_eq (st' := [.int (kb (!(decide (0 ≤ x) && decide (x ≤ nI (mC m) - 1)))), .ref (ka S 30 0)]) rfl rfl rfl ?_
  refine J_topeq 1 (by rw [none_t (n := mC m) (by omega) (by assumption)]; rfl) ?_
  refine J_if_eq 13 (by decide) dX8_urgencyOf_6 (fun c2 => ?_) (fun c2 => ?_)
  · exact absurd c2 (by decide)
  refine J_iconst (v := 1) (by decide) dX8_urgencyOf_9 ?_
  refine J_goto 14 (by decide) dX8_urgencyOf_10 ?_
  refine cv_8_113 (cells' := 0) (slots' := 0) dX8_urgencyOf_14 (c_X8_failsE (x := 1)) n30 ⟨by decide, by decide⟩ rfl rfl (by decide) (by decide) (Nat.le_of_ble_eq_true rfl) (fun _ _ r3 => ?_) (fun _ _ h => h.elim)
  obtain ⟨rfl, rfl⟩ := r3
  refine J_eq (st' := [.int (kb (decide (0 < (1 : Int32))))]) rfl rfl rfl ?_
  have hM4 := MR_cd hM (v := 1)
  refine J_topeq 1 (by decide) ?_
  refine J_if_eq 25 (by decide) dX8_urgencyOf_17 (fun c5 => ?_) (fun c5 => ?_)
  · exact absurd c5 (by decide)
  refine J_bipush (v := 97) (by decide) dX8_urgencyOf_20 ?_
  refine J_goto 31 (by decide) dX8_urgencyOf_22 ?_
  exact J_ireturn rfl (by first | rfl | assumption | simp [kb_nar]) dX8_urgencyOf_31 (⟨rfl, _, _, rfl, hM4⟩) (by omega) (by omega)

set_option maxRecDepth 20000 in
set_option maxHeartbeats 1000000 in
theorem c_X8_leftOf_s {cy : Nat → ClassId} {S : Nat → Nat → Nat} {I : kI} {L : kL} {R : kRf} {m : Mu} {cd : Int32} {i : Nat} (hM : MR m cd I L) {Ic : kI} {Lc : kL} {Rc : kRf} {LPc : List Nat} {rc : Nat → Nat} {ln qu : List Nat} {lg B : Nat} (hR : Rel m Ic Lc Rc LPc rc ln qu lg) (hI : Inv m B) (hB : B + 90000 < 2 ^ 30) (hi : i < mC m) : Con yX8_leftOf cX8_leftOf 2 (some .int) 7 0 0 cy [.ref (ka S 30 0), .int (nI i)] (wm cy S I L R) (fun r w' => r = some (.int (m.1 54 i)) ∧ MX cy S R m 0 w') kF := by
  have hn : mN m := ⟨hR.1.1, hR.2.1.1⟩
  have h10 := hI.1
  have h150 := hI.2.2.1
  have hg0 := inv_g hI (by omega)
  have hkk := hI.2.2.2.1
  have hh := hI.2.2.2.2.1
  refine Con_of (by decide +kernel) (Nat.le_of_ble_eq_true rfl) ?_
  refine J_eq (lv' := [(0, .ref (ka S 30 0)), (1, .int (nI i))]) rfl rfl rfl ?_
  refine J_aload_n 0 rfl dX8_leftOf_0 ?_
  refine J_aload_n 0 rfl dX8_leftOf_1 ?_
  refine J_iload_n 1 rfl dX8_leftOf_2 ?_
  refine cv_8_197 (cells' := 0) (slots' := 0) dX8_leftOf_3 (c_X8_isNoCall hM hn) n30 ⟨by decide, by decide⟩ rfl rfl (by decide) (by decide) (Nat.le_of_ble_eq_true rfl) (fun _ _ r1 => ?_) (fun _ _ h => h.elim)
  obtain ⟨rfl, rfl⟩ := r1
  refine J_eq (st' := [.int (kb (!(decide (0 ≤ (nI i)) && decide ((nI i) ≤ nI (mC m) - 1)))), .ref (ka S 30 0)]) rfl rfl rfl ?_
  refine J_topeq 0 (by rw [none_f (n := mC m) (by omega) (by assumption)]; rfl) ?_
  refine J_if_eq 13 (by decide) dX8_leftOf_6 (fun c2 => ?_) (fun c2 => ?_)
  rotate_left
  · exact absurd (by decide) c2
  refine J_iconst (v := 0) (by decide) dX8_leftOf_13 ?_
  refine cv_8_113 (cells' := 0) (slots' := 0) dX8_leftOf_14 (c_X8_failsE (x := 0)) n30 ⟨by decide, by decide⟩ rfl rfl (by decide) (by decide) (Nat.le_of_ble_eq_true rfl) (fun _ _ r3 => ?_) (fun _ _ h => h.elim)
  obtain ⟨rfl, rfl⟩ := r3
  refine J_eq (st' := [.int (kb (decide (0 < (0 : Int32))))]) rfl rfl rfl ?_
  have hM4 := MR_cd hM (v := 0)
  refine J_topeq 0 (by decide) ?_
  refine J_if_eq 24 (by decide) dX8_leftOf_17 (fun c5 => ?_) (fun c5 => ?_)
  rotate_left
  · exact absurd (by decide) c5
  refine J_aload_n 0 rfl dX8_leftOf_24 ?_
  refine gf_8_45 n30 dX8_leftOf_25 ?_
  refine J_iload_n 1 rfl dX8_leftOf_28 ?_
  refine J_iald i 0 n54 rfl rfl (vp_in_nI (by omega) (by decide)) (nI_toNat (by omega)) dX8_leftOf_29 ?_
  refine J_topeq (m.1 54 i) (hM4.1 54 i rfl) ?_
  exact J_ireturn rfl (by first | rfl | assumption | simp [kb_nar]) dX8_leftOf_30 (⟨rfl, _, _, rfl, hM4⟩) (by omega) (by omega)

set_option maxRecDepth 20000 in
set_option maxHeartbeats 1000000 in
theorem c_X8_leftOf_x {cy : Nat → ClassId} {S : Nat → Nat → Nat} {I : kI} {L : kL} {R : kRf} {m : Mu} {cd : Int32} {x : Int32} (hM : MR m cd I L) {Ic : kI} {Lc : kL} {Rc : kRf} {LPc : List Nat} {rc : Nat → Nat} {ln qu : List Nat} {lg B : Nat} (hR : Rel m Ic Lc Rc LPc rc ln qu lg) (hI : Inv m B) (hB : B + 90000 < 2 ^ 30) (hx : ∀ s, s < mC m → x ≠ nI s) : Con yX8_leftOf cX8_leftOf 2 (some .int) 7 0 0 cy [.ref (ka S 30 0), .int x] (wm cy S I L R) (fun r w' => r = some (.int 0) ∧ MX cy S R m 1 w') kF := by
  have hn : mN m := ⟨hR.1.1, hR.2.1.1⟩
  have h10 := hI.1
  have h150 := hI.2.2.1
  have hg0 := inv_g hI (by omega)
  have hkk := hI.2.2.2.1
  have hh := hI.2.2.2.2.1
  refine Con_of (by decide +kernel) (Nat.le_of_ble_eq_true rfl) ?_
  refine J_eq (lv' := [(0, .ref (ka S 30 0)), (1, .int x)]) rfl rfl rfl ?_
  refine J_aload_n 0 rfl dX8_leftOf_0 ?_
  refine J_aload_n 0 rfl dX8_leftOf_1 ?_
  refine J_iload_n 1 rfl dX8_leftOf_2 ?_
  refine cv_8_197 (cells' := 0) (slots' := 0) dX8_leftOf_3 (c_X8_isNoCall hM hn) n30 ⟨by decide, by decide⟩ rfl rfl (by decide) (by decide) (Nat.le_of_ble_eq_true rfl) (fun _ _ r1 => ?_) (fun _ _ h => h.elim)
  obtain ⟨rfl, rfl⟩ := r1
  refine J_eq (st' := [.int (kb (!(decide (0 ≤ x) && decide (x ≤ nI (mC m) - 1)))), .ref (ka S 30 0)]) rfl rfl rfl ?_
  refine J_topeq 1 (by rw [none_t (n := mC m) (by omega) (by assumption)]; rfl) ?_
  refine J_if_eq 13 (by decide) dX8_leftOf_6 (fun c2 => ?_) (fun c2 => ?_)
  · exact absurd c2 (by decide)
  refine J_iconst (v := 1) (by decide) dX8_leftOf_9 ?_
  refine J_goto 14 (by decide) dX8_leftOf_10 ?_
  refine cv_8_113 (cells' := 0) (slots' := 0) dX8_leftOf_14 (c_X8_failsE (x := 1)) n30 ⟨by decide, by decide⟩ rfl rfl (by decide) (by decide) (Nat.le_of_ble_eq_true rfl) (fun _ _ r3 => ?_) (fun _ _ h => h.elim)
  obtain ⟨rfl, rfl⟩ := r3
  refine J_eq (st' := [.int (kb (decide (0 < (1 : Int32))))]) rfl rfl rfl ?_
  have hM4 := MR_cd hM (v := 1)
  refine J_topeq 1 (by decide) ?_
  refine J_if_eq 24 (by decide) dX8_leftOf_17 (fun c5 => ?_) (fun c5 => ?_)
  · exact absurd c5 (by decide)
  refine J_iconst (v := 0) (by decide) dX8_leftOf_20 ?_
  refine J_goto 30 (by decide) dX8_leftOf_21 ?_
  exact J_ireturn rfl (by first | rfl | assumption | simp [kb_nar]) dX8_leftOf_30 (⟨rfl, _, _, rfl, hM4⟩) (by omega) (by omega)

set_option maxRecDepth 20000 in
set_option maxHeartbeats 1000000 in
theorem c_X8_interruptions_s {cy : Nat → ClassId} {S : Nat → Nat → Nat} {I : kI} {L : kL} {R : kRf} {m : Mu} {cd : Int32} {i : Nat} (hM : MR m cd I L) {Ic : kI} {Lc : kL} {Rc : kRf} {LPc : List Nat} {rc : Nat → Nat} {ln qu : List Nat} {lg B : Nat} (hR : Rel m Ic Lc Rc LPc rc ln qu lg) (hI : Inv m B) (hB : B + 90000 < 2 ^ 30) (hi : i < mC m) : Con yX8_interruptions cX8_interruptions 2 (some .int) 7 0 0 cy [.ref (ka S 30 0), .int (nI i)] (wm cy S I L R) (fun r w' => r = some (.int (m.1 59 i)) ∧ MX cy S R m 0 w') kF := by
  have hn : mN m := ⟨hR.1.1, hR.2.1.1⟩
  have h10 := hI.1
  have h150 := hI.2.2.1
  have hg0 := inv_g hI (by omega)
  have hkk := hI.2.2.2.1
  have hh := hI.2.2.2.2.1
  refine Con_of (by decide +kernel) (Nat.le_of_ble_eq_true rfl) ?_
  refine J_eq (lv' := [(0, .ref (ka S 30 0)), (1, .int (nI i))]) rfl rfl rfl ?_
  refine J_aload_n 0 rfl dX8_interruptions_0 ?_
  refine J_aload_n 0 rfl dX8_interruptions_1 ?_
  refine J_iload_n 1 rfl dX8_interruptions_2 ?_
  refine cv_8_197 (cells' := 0) (slots' := 0) dX8_interruptions_3 (c_X8_isNoCall hM hn) n30 ⟨by decide, by decide⟩ rfl rfl (by decide) (by decide) (Nat.le_of_ble_eq_true rfl) (fun _ _ r1 => ?_) (fun _ _ h => h.elim)
  obtain ⟨rfl, rfl⟩ := r1
  refine J_eq (st' := [.int (kb (!(decide (0 ≤ (nI i)) && decide ((nI i) ≤ nI (mC m) - 1)))), .ref (ka S 30 0)]) rfl rfl rfl ?_
  refine J_topeq 0 (by rw [none_f (n := mC m) (by omega) (by assumption)]; rfl) ?_
  refine J_if_eq 13 (by decide) dX8_interruptions_6 (fun c2 => ?_) (fun c2 => ?_)
  rotate_left
  · exact absurd (by decide) c2
  refine J_iconst (v := 0) (by decide) dX8_interruptions_13 ?_
  refine cv_8_113 (cells' := 0) (slots' := 0) dX8_interruptions_14 (c_X8_failsE (x := 0)) n30 ⟨by decide, by decide⟩ rfl rfl (by decide) (by decide) (Nat.le_of_ble_eq_true rfl) (fun _ _ r3 => ?_) (fun _ _ h => h.elim)
  obtain ⟨rfl, rfl⟩ := r3
  refine J_eq (st' := [.int (kb (decide (0 < (0 : Int32))))]) rfl rfl rfl ?_
  have hM4 := MR_cd hM (v := 0)
  refine J_topeq 0 (by decide) ?_
  refine J_if_eq 24 (by decide) dX8_interruptions_17 (fun c5 => ?_) (fun c5 => ?_)
  rotate_left
  · exact absurd (by decide) c5
  refine J_aload_n 0 rfl dX8_interruptions_24 ?_
  refine gf_8_60 n30 dX8_interruptions_25 ?_
  refine J_iload_n 1 rfl dX8_interruptions_28 ?_
  refine J_iald i 0 n59 rfl rfl (vp_in_nI (by omega) (by decide)) (nI_toNat (by omega)) dX8_interruptions_29 ?_
  refine J_topeq (m.1 59 i) (hM4.1 59 i rfl) ?_
  exact J_ireturn rfl (by first | rfl | assumption | simp [kb_nar]) dX8_interruptions_30 (⟨rfl, _, _, rfl, hM4⟩) (by omega) (by omega)

set_option maxRecDepth 20000 in
set_option maxHeartbeats 1000000 in
theorem c_X8_interruptions_x {cy : Nat → ClassId} {S : Nat → Nat → Nat} {I : kI} {L : kL} {R : kRf} {m : Mu} {cd : Int32} {x : Int32} (hM : MR m cd I L) {Ic : kI} {Lc : kL} {Rc : kRf} {LPc : List Nat} {rc : Nat → Nat} {ln qu : List Nat} {lg B : Nat} (hR : Rel m Ic Lc Rc LPc rc ln qu lg) (hI : Inv m B) (hB : B + 90000 < 2 ^ 30) (hx : ∀ s, s < mC m → x ≠ nI s) : Con yX8_interruptions cX8_interruptions 2 (some .int) 7 0 0 cy [.ref (ka S 30 0), .int x] (wm cy S I L R) (fun r w' => r = some (.int 0) ∧ MX cy S R m 1 w') kF := by
  have hn : mN m := ⟨hR.1.1, hR.2.1.1⟩
  have h10 := hI.1
  have h150 := hI.2.2.1
  have hg0 := inv_g hI (by omega)
  have hkk := hI.2.2.2.1
  have hh := hI.2.2.2.2.1
  refine Con_of (by decide +kernel) (Nat.le_of_ble_eq_true rfl) ?_
  refine J_eq (lv' := [(0, .ref (ka S 30 0)), (1, .int x)]) rfl rfl rfl ?_
  refine J_aload_n 0 rfl dX8_interruptions_0 ?_
  refine J_aload_n 0 rfl dX8_interruptions_1 ?_
  refine J_iload_n 1 rfl dX8_interruptions_2 ?_
  refine cv_8_197 (cells' := 0) (slots' := 0) dX8_interruptions_3 (c_X8_isNoCall hM hn) n30 ⟨by decide, by decide⟩ rfl rfl (by decide) (by decide) (Nat.le_of_ble_eq_true rfl) (fun _ _ r1 => ?_) (fun _ _ h => h.elim)
  obtain ⟨rfl, rfl⟩ := r1
  refine J_eq (st' := [.int (kb (!(decide (0 ≤ x) && decide (x ≤ nI (mC m) - 1)))), .ref (ka S 30 0)]) rfl rfl rfl ?_
  refine J_topeq 1 (by rw [none_t (n := mC m) (by omega) (by assumption)]; rfl) ?_
  refine J_if_eq 13 (by decide) dX8_interruptions_6 (fun c2 => ?_) (fun c2 => ?_)
  · exact absurd c2 (by decide)
  refine J_iconst (v := 1) (by decide) dX8_interruptions_9 ?_
  refine J_goto 14 (by decide) dX8_interruptions_10 ?_
  refine cv_8_113 (cells' := 0) (slots' := 0) dX8_interruptions_14 (c_X8_failsE (x := 1)) n30 ⟨by decide, by decide⟩ rfl rfl (by decide) (by decide) (Nat.le_of_ble_eq_true rfl) (fun _ _ r3 => ?_) (fun _ _ h => h.elim)
  obtain ⟨rfl, rfl⟩ := r3
  refine J_eq (st' := [.int (kb (decide (0 < (1 : Int32))))]) rfl rfl rfl ?_
  have hM4 := MR_cd hM (v := 1)
  refine J_topeq 1 (by decide) ?_
  refine J_if_eq 24 (by decide) dX8_interruptions_17 (fun c5 => ?_) (fun c5 => ?_)
  · exact absurd c5 (by decide)
  refine J_iconst (v := 0) (by decide) dX8_interruptions_20 ?_
  refine J_goto 30 (by decide) dX8_interruptions_21 ?_
  exact J_ireturn rfl (by first | rfl | assumption | simp [kb_nar]) dX8_interruptions_30 (⟨rfl, _, _, rfl, hM4⟩) (by omega) (by omega)

set_option maxRecDepth 20000 in
set_option maxHeartbeats 1000000 in
theorem c_X8_channelOf_s {cy : Nat → ClassId} {S : Nat → Nat → Nat} {I : kI} {L : kL} {R : kRf} {m : Mu} {cd : Int32} {i : Nat} (hM : MR m cd I L) {Ic : kI} {Lc : kL} {Rc : kRf} {LPc : List Nat} {rc : Nat → Nat} {ln qu : List Nat} {lg B : Nat} (hR : Rel m Ic Lc Rc LPc rc ln qu lg) (hI : Inv m B) (hB : B + 90000 < 2 ^ 30) (hi : i < mC m) (hsp : m.1 55 i = 115) : Con yX8_channelOf cX8_channelOf 2 (some .int) 7 0 0 cy [.ref (ka S 30 0), .int (nI i)] (wm cy S I L R) (fun r w' => r = some (.int (m.1 56 i)) ∧ MX cy S R m 0 w') kF := by
  have hn : mN m := ⟨hR.1.1, hR.2.1.1⟩
  have h10 := hI.1
  have h150 := hI.2.2.1
  have hg0 := inv_g hI (by omega)
  have hkk := hI.2.2.2.1
  have hh := hI.2.2.2.2.1
  refine Con_of (by decide +kernel) (Nat.le_of_ble_eq_true rfl) ?_
  refine J_eq (lv' := [(0, .ref (ka S 30 0)), (1, .int (nI i))]) rfl rfl rfl ?_
  refine J_aload_n 0 rfl dX8_channelOf_0 ?_
  refine J_aload_n 0 rfl dX8_channelOf_1 ?_
  refine J_iload_n 1 rfl dX8_channelOf_2 ?_
  refine cv_8_197 (cells' := 0) (slots' := 0) dX8_channelOf_3 (c_X8_isNoCall hM hn) n30 ⟨by decide, by decide⟩ rfl rfl (by decide) (by decide) (Nat.le_of_ble_eq_true rfl) (fun _ _ r1 => ?_) (fun _ _ h => h.elim)
  obtain ⟨rfl, rfl⟩ := r1
  refine J_eq (st' := [.int (kb (!(decide (0 ≤ (nI i)) && decide ((nI i) ≤ nI (mC m) - 1)))), .ref (ka S 30 0)]) rfl rfl rfl ?_
  refine J_topeq 0 (by rw [none_f (n := mC m) (by omega) (by assumption)]; rfl) ?_
  refine J_if_eq 13 (by decide) dX8_channelOf_6 (fun c2 => ?_) (fun c2 => ?_)
  rotate_left
  · exact absurd (by decide) c2
  refine J_aload_n 0 rfl dX8_channelOf_13 ?_
  refine gf_8_48 n30 dX8_channelOf_14 ?_
  refine J_iload_n 1 rfl dX8_channelOf_17 ?_
  refine J_cald i 1 n55 rfl rfl (vp_in_nI (by omega) (by decide)) (nI_toNat (by omega)) dX8_channelOf_18 ?_
  refine J_topeq (m.1 55 i) (hM.1 55 i rfl) ?_
  refine J_bipush (v := 115) (by decide) dX8_channelOf_19 ?_
  refine J_icmp_eq 28 (by decide) dX8_channelOf_21 (fun c3 => ?_) (fun c3 => ?_)
  rotate_left
  · exfalso
    exact c3 hsp
  refine J_iconst (v := 0) (by decide) dX8_channelOf_28 ?_
  refine cv_8_113 (cells' := 0) (slots' := 0) dX8_channelOf_29 (c_X8_failsE (x := 0)) n30 ⟨by decide, by decide⟩ rfl rfl (by decide) (by decide) (Nat.le_of_ble_eq_true rfl) (fun _ _ r4 => ?_) (fun _ _ h => h.elim)
  obtain ⟨rfl, rfl⟩ := r4
  refine J_eq (st' := [.int (kb (decide (0 < (0 : Int32))))]) rfl rfl rfl ?_
  have hM5 := MR_cd hM (v := 0)
  refine J_topeq 0 (by decide) ?_
  refine J_if_eq 39 (by decide) dX8_channelOf_32 (fun c6 => ?_) (fun c6 => ?_)
  rotate_left
  · exact absurd (by decide) c6
  refine J_aload_n 0 rfl dX8_channelOf_39 ?_
  refine gf_8_51 n30 dX8_channelOf_40 ?_
  refine J_iload_n 1 rfl dX8_channelOf_43 ?_
  refine J_iald i 0 n56 rfl rfl (vp_in_nI (by omega) (by decide)) (nI_toNat (by omega)) dX8_channelOf_44 ?_
  refine J_topeq (m.1 56 i) (hM5.1 56 i rfl) ?_
  exact J_ireturn rfl (by first | rfl | assumption | simp [kb_nar]) dX8_channelOf_45 (⟨rfl, _, _, rfl, hM5⟩) (by omega) (by omega)

set_option maxRecDepth 20000 in
set_option maxHeartbeats 1000000 in
theorem c_X8_channelOf_x {cy : Nat → ClassId} {S : Nat → Nat → Nat} {I : kI} {L : kL} {R : kRf} {m : Mu} {cd : Int32} {x : Int32} (hM : MR m cd I L) {Ic : kI} {Lc : kL} {Rc : kRf} {LPc : List Nat} {rc : Nat → Nat} {ln qu : List Nat} {lg B : Nat} (hR : Rel m Ic Lc Rc LPc rc ln qu lg) (hI : Inv m B) (hB : B + 90000 < 2 ^ 30) (hx : ∀ s, s < mC m → x ≠ nI s) : Con yX8_channelOf cX8_channelOf 2 (some .int) 7 0 0 cy [.ref (ka S 30 0), .int x] (wm cy S I L R) (fun r w' => r = some (.int 0) ∧ MX cy S R m 1 w') kF := by
  have hn : mN m := ⟨hR.1.1, hR.2.1.1⟩
  have h10 := hI.1
  have h150 := hI.2.2.1
  have hg0 := inv_g hI (by omega)
  have hkk := hI.2.2.2.1
  have hh := hI.2.2.2.2.1
  refine Con_of (by decide +kernel) (Nat.le_of_ble_eq_true rfl) ?_
  refine J_eq (lv' := [(0, .ref (ka S 30 0)), (1, .int x)]) rfl rfl rfl ?_
  refine J_aload_n 0 rfl dX8_channelOf_0 ?_
  refine J_aload_n 0 rfl dX8_channelOf_1 ?_
  refine J_iload_n 1 rfl dX8_channelOf_2 ?_
  refine cv_8_197 (cells' := 0) (slots' := 0) dX8_channelOf_3 (c_X8_isNoCall hM hn) n30 ⟨by decide, by decide⟩ rfl rfl (by decide) (by decide) (Nat.le_of_ble_eq_true rfl) (fun _ _ r1 => ?_) (fun _ _ h => h.elim)
  obtain ⟨rfl, rfl⟩ := r1
  refine J_eq (st' := [.int (kb (!(decide (0 ≤ x) && decide (x ≤ nI (mC m) - 1)))), .ref (ka S 30 0)]) rfl rfl rfl ?_
  refine J_topeq 1 (by rw [none_t (n := mC m) (by omega) (by assumption)]; rfl) ?_
  refine J_if_eq 13 (by decide) dX8_channelOf_6 (fun c2 => ?_) (fun c2 => ?_)
  · exact absurd c2 (by decide)
  refine J_iconst (v := 1) (by decide) dX8_channelOf_9 ?_
  refine J_goto 29 (by decide) dX8_channelOf_10 ?_
  refine cv_8_113 (cells' := 0) (slots' := 0) dX8_channelOf_29 (c_X8_failsE (x := 1)) n30 ⟨by decide, by decide⟩ rfl rfl (by decide) (by decide) (Nat.le_of_ble_eq_true rfl) (fun _ _ r3 => ?_) (fun _ _ h => h.elim)
  obtain ⟨rfl, rfl⟩ := r3
  refine J_eq (st' := [.int (kb (decide (0 < (1 : Int32))))]) rfl rfl rfl ?_
  have hM4 := MR_cd hM (v := 1)
  refine J_topeq 1 (by decide) ?_
  refine J_if_eq 39 (by decide) dX8_channelOf_32 (fun c5 => ?_) (fun c5 => ?_)
  · exact absurd c5 (by decide)
  refine J_iconst (v := 0) (by decide) dX8_channelOf_35 ?_
  refine J_goto 45 (by decide) dX8_channelOf_36 ?_
  exact J_ireturn rfl (by first | rfl | assumption | simp [kb_nar]) dX8_channelOf_45 (⟨rfl, _, _, rfl, hM4⟩) (by omega) (by omega)

set_option maxRecDepth 20000 in
set_option maxHeartbeats 1000000 in
theorem c_X8_channelOf_y {cy : Nat → ClassId} {S : Nat → Nat → Nat} {I : kI} {L : kL} {R : kRf} {m : Mu} {cd : Int32} {i : Nat} (hM : MR m cd I L) {Ic : kI} {Lc : kL} {Rc : kRf} {LPc : List Nat} {rc : Nat → Nat} {ln qu : List Nat} {lg B : Nat} (hR : Rel m Ic Lc Rc LPc rc ln qu lg) (hI : Inv m B) (hB : B + 90000 < 2 ^ 30) (hi : i < mC m) (hsp : m.1 55 i ≠ 115) : Con yX8_channelOf cX8_channelOf 2 (some .int) 7 0 0 cy [.ref (ka S 30 0), .int (nI i)] (wm cy S I L R) (fun r w' => r = some (.int 0) ∧ MX cy S R m 2 w') kF := by
  have hn : mN m := ⟨hR.1.1, hR.2.1.1⟩
  have h10 := hI.1
  have h150 := hI.2.2.1
  have hg0 := inv_g hI (by omega)
  have hkk := hI.2.2.2.1
  have hh := hI.2.2.2.2.1
  refine Con_of (by decide +kernel) (Nat.le_of_ble_eq_true rfl) ?_
  refine J_eq (lv' := [(0, .ref (ka S 30 0)), (1, .int (nI i))]) rfl rfl rfl ?_
  refine J_aload_n 0 rfl dX8_channelOf_0 ?_
  refine J_aload_n 0 rfl dX8_channelOf_1 ?_
  refine J_iload_n 1 rfl dX8_channelOf_2 ?_
  refine cv_8_197 (cells' := 0) (slots' := 0) dX8_channelOf_3 (c_X8_isNoCall hM hn) n30 ⟨by decide, by decide⟩ rfl rfl (by decide) (by decide) (Nat.le_of_ble_eq_true rfl) (fun _ _ r1 => ?_) (fun _ _ h => h.elim)
  obtain ⟨rfl, rfl⟩ := r1
  refine J_eq (st' := [.int (kb (!(decide (0 ≤ (nI i)) && decide ((nI i) ≤ nI (mC m) - 1)))), .ref (ka S 30 0)]) rfl rfl rfl ?_
  refine J_topeq 0 (by rw [none_f (n := mC m) (by omega) (by assumption)]; rfl) ?_
  refine J_if_eq 13 (by decide) dX8_channelOf_6 (fun c2 => ?_) (fun c2 => ?_)
  rotate_left
  · exact absurd (by decide) c2
  refine J_aload_n 0 rfl dX8_channelOf_13 ?_
  refine gf_8_48 n30 dX8_channelOf_14 ?_
  refine J_iload_n 1 rfl dX8_channelOf_17 ?_
  refine J_cald i 1 n55 rfl rfl (vp_in_nI (by omega) (by decide)) (nI_toNat (by omega)) dX8_channelOf_18 ?_
  refine J_topeq (m.1 55 i) (hM.1 55 i rfl) ?_
  refine J_bipush (v := 115) (by decide) dX8_channelOf_19 ?_
  refine J_icmp_eq 28 (by decide) dX8_channelOf_21 (fun c3 => ?_) (fun c3 => ?_)
  · exfalso
    exact hsp c3
  refine J_iconst (v := 2) (by decide) dX8_channelOf_24 ?_
  refine J_goto 29 (by decide) dX8_channelOf_25 ?_
  refine cv_8_113 (cells' := 0) (slots' := 0) dX8_channelOf_29 (c_X8_failsE (x := 2)) n30 ⟨by decide, by decide⟩ rfl rfl (by decide) (by decide) (Nat.le_of_ble_eq_true rfl) (fun _ _ r4 => ?_) (fun _ _ h => h.elim)
  obtain ⟨rfl, rfl⟩ := r4
  refine J_eq (st' := [.int (kb (decide (0 < (2 : Int32))))]) rfl rfl rfl ?_
  have hM5 := MR_cd hM (v := 2)
  refine J_topeq 1 (by decide) ?_
  refine J_if_eq 39 (by decide) dX8_channelOf_32 (fun c6 => ?_) (fun c6 => ?_)
  · exact absurd c6 (by decide)
  refine J_iconst (v := 0) (by decide) dX8_channelOf_35 ?_
  refine J_goto 45 (by decide) dX8_channelOf_36 ?_
  exact J_ireturn rfl (by first | rfl | assumption | simp [kb_nar]) dX8_channelOf_45 (⟨rfl, _, _, rfl, hM5⟩) (by omega) (by omega)

set_option maxRecDepth 20000 in
set_option maxHeartbeats 1000000 in
theorem c_X8_speakerOn_s {cy : Nat → ClassId} {S : Nat → Nat → Nat} {I : kI} {L : kL} {R : kRf} {m : Mu} {cd : Int32} {h c : Nat} (hM : MR m cd I L) {Ic : kI} {Lc : kL} {Rc : kRf} {LPc : List Nat} {rc : Nat → Nat} {ln qu : List Nat} {lg B : Nat} (hR : Rel m Ic Lc Rc LPc rc ln qu lg) (hI : Inv m B) (hB : B + 90000 < 2 ^ 30) (hh3 : h < 3) (hm : mOn m h = some c) : Con yX8_speakerOn cX8_speakerOn 2 (some .int) 7 0 0 cy [.ref (ka S 30 0), .int (nI h)] (wm cy S I L R) (fun r w' => r = some (.int (nI c)) ∧ MX cy S R m 0 w') kF := by
  have hn : mN m := ⟨hR.1.1, hR.2.1.1⟩
  have h10 := hI.1
  have h150 := hI.2.2.1
  have hg0 := inv_g hI (by omega)
  have hkk := hI.2.2.2.1
  have hh := hI.2.2.2.2.1
  have hc := (mOn_some hm).1
  refine Con_of (by decide +kernel) (Nat.le_of_ble_eq_true rfl) ?_
  refine J_eq (lv' := [(0, .ref (ka S 30 0)), (1, .int (nI h))]) rfl rfl rfl ?_
  refine J_aload_n 0 rfl dX8_speakerOn_0 ?_
  refine J_aload_n 0 rfl dX8_speakerOn_1 ?_
  refine J_iload_n 1 rfl dX8_speakerOn_2 ?_
  refine cv_8_203 (cells' := 0) (slots' := 0) dX8_speakerOn_3 (c_X8_isNoChannel) n30 ⟨by decide, by decide⟩ rfl rfl (by decide) (by decide) (Nat.le_of_ble_eq_true rfl) (fun _ _ r1 => ?_) (fun _ _ h => h.elim)
  obtain ⟨rfl, rfl⟩ := r1
  refine J_eq (st' := [.int (kb (!(decide (0 ≤ (nI h)) && decide ((nI h) ≤ 2)))), .ref (ka S 30 0)]) rfl rfl rfl ?_
  refine J_topeq 0 (by exact (congrArg kb (none_f (n := 3) (by omega) (by assumption)))) ?_
  refine J_if_eq 13 (by decide) dX8_speakerOn_6 (fun c2 => ?_) (fun c2 => ?_)
  rotate_left
  · exact absurd (by decide) c2
  refine J_aload_n 0 rfl dX8_speakerOn_13 ?_
  refine J_iload_n 1 rfl dX8_speakerOn_14 ?_
  refine cv_8_153 (cells' := 0) (slots' := 0) dX8_speakerOn_15 (c_X8_speaker (h := h) hM hn h150) n30 ⟨by decide, by decide⟩ rfl rfl (by decide) (by decide) (Nat.le_of_ble_eq_true rfl) (fun _ _ r3 => ?_) (fun _ _ h => h.elim)
  obtain ⟨rfl, rfl⟩ := r3
  refine J_eq (st' := [.int (oI (mOn m h)), .ref (ka S 30 0)]) rfl rfl rfl ?_
  refine J_topeq (nI c) (by rw [hm]; rfl) ?_
  refine J_if_ge 25 (by decide) dX8_speakerOn_18 (fun c4 => ?_) (fun c4 => ?_)
  rotate_left
  · exfalso
    have Nc4 : ¬ (0 ≤ c) := fun q => c4 ((nI_leI (a := 0) (b := c) (by omega) (by omega)).mpr q)
    omega
  have Nc4 : 0 ≤ c := (nI_leI (a := 0) (b := c) (by omega) (by omega)).mp c4
  refine J_iconst (v := 0) (by decide) dX8_speakerOn_25 ?_
  refine cv_8_113 (cells' := 0) (slots' := 0) dX8_speakerOn_26 (c_X8_failsE (x := 0)) n30 ⟨by decide, by decide⟩ rfl rfl (by decide) (by decide) (Nat.le_of_ble_eq_true rfl) (fun _ _ r5 => ?_) (fun _ _ h => h.elim)
  obtain ⟨rfl, rfl⟩ := r5
  refine J_eq (st' := [.int (kb (decide (0 < (0 : Int32))))]) rfl rfl rfl ?_
  have hM6 := MR_cd hM (v := 0)
  refine J_topeq 0 (by decide) ?_
  refine J_if_eq 36 (by decide) dX8_speakerOn_29 (fun c7 => ?_) (fun c7 => ?_)
  rotate_left
  · exact absurd (by decide) c7
  refine J_aload_n 0 rfl dX8_speakerOn_36 ?_
  refine J_iload_n 1 rfl dX8_speakerOn_37 ?_
  refine cv_8_153 (cells' := 0) (slots' := 0) dX8_speakerOn_38 (c_X8_speaker (h := h) hM6 hn h150) n30 ⟨by decide, by decide⟩ rfl rfl (by decide) (by decide) (Nat.le_of_ble_eq_true rfl) (fun _ _ r8 => ?_) (fun _ _ h => h.elim)
  obtain ⟨rfl, rfl⟩ := r8
  refine J_eq (st' := [.int (oI (mOn m h))]) rfl rfl rfl ?_
  refine J_topeq (nI c) (by rw [hm]; rfl) ?_
  exact J_ireturn rfl (by first | rfl | assumption | simp [kb_nar]) dX8_speakerOn_41 (⟨rfl, _, _, rfl, hM6⟩) (by omega) (by omega)

set_option maxRecDepth 20000 in
set_option maxHeartbeats 1000000 in
theorem c_X8_speakerOn_n {cy : Nat → ClassId} {S : Nat → Nat → Nat} {I : kI} {L : kL} {R : kRf} {m : Mu} {cd : Int32} {h : Nat} (hM : MR m cd I L) {Ic : kI} {Lc : kL} {Rc : kRf} {LPc : List Nat} {rc : Nat → Nat} {ln qu : List Nat} {lg B : Nat} (hR : Rel m Ic Lc Rc LPc rc ln qu lg) (hI : Inv m B) (hB : B + 90000 < 2 ^ 30) (hh3 : h < 3) (hm : mOn m h = none) : Con yX8_speakerOn cX8_speakerOn 2 (some .int) 7 0 0 cy [.ref (ka S 30 0), .int (nI h)] (wm cy S I L R) (fun r w' => r = some (.int 0) ∧ MX cy S R m 2 w') kF := by
  have hn : mN m := ⟨hR.1.1, hR.2.1.1⟩
  have h10 := hI.1
  have h150 := hI.2.2.1
  have hg0 := inv_g hI (by omega)
  have hkk := hI.2.2.2.1
  have hh := hI.2.2.2.2.1
  refine Con_of (by decide +kernel) (Nat.le_of_ble_eq_true rfl) ?_
  refine J_eq (lv' := [(0, .ref (ka S 30 0)), (1, .int (nI h))]) rfl rfl rfl ?_
  refine J_aload_n 0 rfl dX8_speakerOn_0 ?_
  refine J_aload_n 0 rfl dX8_speakerOn_1 ?_
  refine J_iload_n 1 rfl dX8_speakerOn_2 ?_
  refine cv_8_203 (cells' := 0) (slots' := 0) dX8_speakerOn_3 (c_X8_isNoChannel) n30 ⟨by decide, by decide⟩ rfl rfl (by decide) (by decide) (Nat.le_of_ble_eq_true rfl) (fun _ _ r1 => ?_) (fun _ _ h => h.elim)
  obtain ⟨rfl, rfl⟩ := r1
  refine J_eq (st' := [.int (kb (!(decide (0 ≤ (nI h)) && decide ((nI h) ≤ 2)))), .ref (ka S 30 0)]) rfl rfl rfl ?_
  refine J_topeq 0 (by exact (congrArg kb (none_f (n := 3) (by omega) (by assumption)))) ?_
  refine J_if_eq 13 (by decide) dX8_speakerOn_6 (fun c2 => ?_) (fun c2 => ?_)
  rotate_left
  · exact absurd (by decide) c2
  refine J_aload_n 0 rfl dX8_speakerOn_13 ?_
  refine J_iload_n 1 rfl dX8_speakerOn_14 ?_
  refine cv_8_153 (cells' := 0) (slots' := 0) dX8_speakerOn_15 (c_X8_speaker (h := h) hM hn h150) n30 ⟨by decide, by decide⟩ rfl rfl (by decide) (by decide) (Nat.le_of_ble_eq_true rfl) (fun _ _ r3 => ?_) (fun _ _ h => h.elim)
  obtain ⟨rfl, rfl⟩ := r3
  refine J_eq (st' := [.int (oI (mOn m h)), .ref (ka S 30 0)]) rfl rfl rfl ?_
  refine J_topeq (-1) (by rw [hm]; rfl) ?_
  refine J_if_ge 25 (by decide) dX8_speakerOn_18 (fun c4 => ?_) (fun c4 => ?_)
  · exact absurd c4 (by decide)
  refine J_iconst (v := 2) (by decide) dX8_speakerOn_21 ?_
  refine J_goto 26 (by decide) dX8_speakerOn_22 ?_
  refine cv_8_113 (cells' := 0) (slots' := 0) dX8_speakerOn_26 (c_X8_failsE (x := 2)) n30 ⟨by decide, by decide⟩ rfl rfl (by decide) (by decide) (Nat.le_of_ble_eq_true rfl) (fun _ _ r5 => ?_) (fun _ _ h => h.elim)
  obtain ⟨rfl, rfl⟩ := r5
  refine J_eq (st' := [.int (kb (decide (0 < (2 : Int32))))]) rfl rfl rfl ?_
  have hM6 := MR_cd hM (v := 2)
  refine J_topeq 1 (by decide) ?_
  refine J_if_eq 36 (by decide) dX8_speakerOn_29 (fun c7 => ?_) (fun c7 => ?_)
  · exact absurd c7 (by decide)
  refine J_iconst (v := 0) (by decide) dX8_speakerOn_32 ?_
  refine J_goto 41 (by decide) dX8_speakerOn_33 ?_
  exact J_ireturn rfl (by first | rfl | assumption | simp [kb_nar]) dX8_speakerOn_41 (⟨rfl, _, _, rfl, hM6⟩) (by omega) (by omega)

set_option maxRecDepth 20000 in
set_option maxHeartbeats 1000000 in
theorem c_X8_speakerOn_x {cy : Nat → ClassId} {S : Nat → Nat → Nat} {I : kI} {L : kL} {R : kRf} {m : Mu} {cd : Int32} {x : Int32} (hM : MR m cd I L) {Ic : kI} {Lc : kL} {Rc : kRf} {LPc : List Nat} {rc : Nat → Nat} {ln qu : List Nat} {lg B : Nat} (hR : Rel m Ic Lc Rc LPc rc ln qu lg) (hI : Inv m B) (hB : B + 90000 < 2 ^ 30) (hx : ∀ s, s < 3 → x ≠ nI s) : Con yX8_speakerOn cX8_speakerOn 2 (some .int) 7 0 0 cy [.ref (ka S 30 0), .int x] (wm cy S I L R) (fun r w' => r = some (.int 0) ∧ MX cy S R m 1 w') kF := by
  have hn : mN m := ⟨hR.1.1, hR.2.1.1⟩
  have h10 := hI.1
  have h150 := hI.2.2.1
  have hg0 := inv_g hI (by omega)
  have hkk := hI.2.2.2.1
  have hh := hI.2.2.2.2.1
  refine Con_of (by decide +kernel) (Nat.le_of_ble_eq_true rfl) ?_
  refine J_eq (lv' := [(0, .ref (ka S 30 0)), (1, .int x)]) rfl rfl rfl ?_
  refine J_aload_n 0 rfl dX8_speakerOn_0 ?_
  refine J_aload_n 0 rfl dX8_speakerOn_1 ?_
  refine J_iload_n 1 rfl dX8_speakerOn_2 ?_
  refine cv_8_203 (cells' := 0) (slots' := 0) dX8_speakerOn_3 (c_X8_isNoChannel) n30 ⟨by decide, by decide⟩ rfl rfl (by decide) (by decide) (Nat.le_of_ble_eq_true rfl) (fun _ _ r1 => ?_) (fun _ _ h => h.elim)
  obtain ⟨rfl, rfl⟩ := r1
  refine J_eq (st' := [.int (kb (!(decide (0 ≤ x) && decide (x ≤ 2)))), .ref (ka S 30 0)]) rfl rfl rfl ?_
  refine J_topeq 1 (by exact (congrArg kb (none_t (n := 3) (by omega) (by assumption)))) ?_
  refine J_if_eq 13 (by decide) dX8_speakerOn_6 (fun c2 => ?_) (fun c2 => ?_)
  · exact absurd c2 (by decide)
  refine J_iconst (v := 1) (by decide) dX8_speakerOn_9 ?_
  refine J_goto 26 (by decide) dX8_speakerOn_10 ?_
  refine cv_8_113 (cells' := 0) (slots' := 0) dX8_speakerOn_26 (c_X8_failsE (x := 1)) n30 ⟨by decide, by decide⟩ rfl rfl (by decide) (by decide) (Nat.le_of_ble_eq_true rfl) (fun _ _ r3 => ?_) (fun _ _ h => h.elim)
  obtain ⟨rfl, rfl⟩ := r3
  refine J_eq (st' := [.int (kb (decide (0 < (1 : Int32))))]) rfl rfl rfl ?_
  have hM4 := MR_cd hM (v := 1)
  refine J_topeq 1 (by decide) ?_
  refine J_if_eq 36 (by decide) dX8_speakerOn_29 (fun c5 => ?_) (fun c5 => ?_)
  · exact absurd c5 (by decide)
  refine J_iconst (v := 0) (by decide) dX8_speakerOn_32 ?_
  refine J_goto 41 (by decide) dX8_speakerOn_33 ?_
  exact J_ireturn rfl (by first | rfl | assumption | simp [kb_nar]) dX8_speakerOn_41 (⟨rfl, _, _, rfl, hM4⟩) (by omega) (by omega)

set_option maxRecDepth 20000 in
set_option maxHeartbeats 1000000 in
theorem c_X8_setWatch_s {cy : Nat → ClassId} {S : Nat → Nat → Nat} {I : kI} {L : kL} {R : kRf} {m : Mu} {cd : Int32} {s : Nat} {v : Int32} (hM : MR m cd I L) {Ic : kI} {Lc : kL} {Rc : kRf} {LPc : List Nat} {rc : Nat → Nat} {ln qu : List Nat} {lg B : Nat} (hR : Rel m Ic Lc Rc LPc rc ln qu lg) (hI : Inv m B) (hB : B + 90000 < 2 ^ 30) (hs : s < mS m) (hv : v = 0 ∨ (5 ≤ v ∧ v ≤ 60)) : Con yX8_setWatch cX8_setWatch 4 (some .int) 7 0 0 cy [.ref (ka S 30 0), .int (nI s), .int v] (wm cy S I L R) (fun r w' => r = some (.int (m.1 44 s)) ∧ MX cy S R (ms (ms m 44 s v) 45 s (m.1 30 26)) 0 w') kF := by
  have hn : mN m := ⟨hR.1.1, hR.2.1.1⟩
  have h10 := hI.1
  have h150 := hI.2.2.1
  have hg0 := inv_g hI (by omega)
  have hkk := hI.2.2.2.1
  have hh := hI.2.2.2.2.1
  refine Con_of (by decide +kernel) (Nat.le_of_ble_eq_true rfl) ?_
  refine J_eq (lv' := [(0, .ref (ka S 30 0)), (1, .int (nI s)), (2, .int v)]) rfl rfl rfl ?_
  refine J_aload_n 0 rfl dX8_setWatch_0 ?_
  refine J_aload_n 0 rfl dX8_setWatch_1 ?_
  refine J_iload_n 1 rfl dX8_setWatch_2 ?_
  refine cv_8_120 (cells' := 0) (slots' := 0) dX8_setWatch_3 (c_X8_isNone hM hn) n30 ⟨by decide, by decide⟩ rfl rfl (by decide) (by decide) (Nat.le_of_ble_eq_true rfl) (fun _ _ r1 => ?_) (fun _ _ h => h.elim)
  obtain ⟨rfl, rfl⟩ := r1
  refine J_eq (st' := [.int (kb (!(decide (0 ≤ (nI s)) && decide ((nI s) ≤ nI (mS m) - 1)))), .ref (ka S 30 0)]) rfl rfl rfl ?_
  refine J_topeq 0 (by rw [none_f (n := mS m) (by omega) (by assumption)]; rfl) ?_
  refine J_if_eq 13 (by decide) dX8_setWatch_6 (fun c2 => ?_) (fun c2 => ?_)
  rotate_left
  · exact absurd (by decide) c2
  refine J_iload_n 2 rfl dX8_setWatch_13 ?_
  refine J_if_eq 31 (by decide) dX8_setWatch_14 (fun c3 => ?_) (fun c3 => ?_)
  · skip
    refine J_iconst (v := 0) (by decide) dX8_setWatch_31 ?_
    refine cv_8_113 (cells' := 0) (slots' := 0) dX8_setWatch_32 (c_X8_failsE (x := 0)) n30 ⟨by decide, by decide⟩ rfl rfl (by decide) (by decide) (Nat.le_of_ble_eq_true rfl) (fun _ _ r4 => ?_) (fun _ _ h => h.elim)
    obtain ⟨rfl, rfl⟩ := r4
    refine J_eq (st' := [.int (kb (decide (0 < (0 : Int32))))]) rfl rfl rfl ?_
    have hM5 := MR_cd hM (v := 0)
    refine J_topeq 0 (by decide) ?_
    refine J_if_eq 40 (by decide) dX8_setWatch_35 (fun c6 => ?_) (fun c6 => ?_)
    rotate_left
    · exact absurd (by decide) c6
    refine J_aload_n 0 rfl dX8_setWatch_40 ?_
    refine gf_8_20 n30 dX8_setWatch_41 ?_
    refine J_iload_n 1 rfl dX8_setWatch_44 ?_
    refine J_iald s 0 n44 rfl rfl (vp_in_nI (by omega) (by decide)) (nI_toNat (by omega)) dX8_setWatch_45 ?_
    refine J_topeq (m.1 44 s) (hM5.1 44 s rfl) ?_
    refine J_istore_n (lv' := [(0, .ref (ka S 30 0)), (1, .int (nI s)), (2, .int v), (3, .int (m.1 44 s))]) (by decide) rfl dX8_setWatch_46 ?_
    refine J_aload_n 0 rfl dX8_setWatch_47 ?_
    refine gf_8_20 n30 dX8_setWatch_48 ?_
    refine J_iload_n 1 rfl dX8_setWatch_51 ?_
    refine J_iload_n 2 rfl dX8_setWatch_52 ?_
    refine J_iast (I' := ku (ku I 30 0 31 0) 44 0 s v) (L' := L) (R' := R) s 0 n44 rfl rfl (vp_in_nI (by omega) (by decide)) (nI_toNat (by omega)) (by rw [ku_own]; rfl) (fun k' i' h => ⟨ku_row _ _ h, rfl, rfl⟩) dX8_setWatch_53 ?_
    have hM7 := MR_ms (k := 44) (j := s) (v := v) hM5 rfl
    refine J_aload_n 0 rfl dX8_setWatch_54 ?_
    refine gf_8_23 n30 dX8_setWatch_55 ?_
    refine J_iload_n 1 rfl dX8_setWatch_58 ?_
    refine J_aload_n 0 rfl dX8_setWatch_59 ?_
    refine gf_8_85 n30 dX8_setWatch_60 ?_
    refine J_topeq ((ms m 44 s v).1 30 26) (hM7.1 30 26 rfl) ?_
    refine J_iast (I' := ku (ku (ku I 30 0 31 0) 44 0 s v) 45 0 s ((ms m 44 s v).1 30 26)) (L' := L) (R' := R) s 0 n45 rfl rfl (vp_in_nI (by omega) (by decide)) (nI_toNat (by omega)) (by rw [ku_own]; rfl) (fun k' i' h => ⟨ku_row _ _ h, rfl, rfl⟩) dX8_setWatch_63 ?_
    have hM8 := MR_ms (k := 45) (j := s) (v := ((ms m 44 s v).1 30 26)) hM7 rfl
    refine J_iload_n 3 rfl dX8_setWatch_64 ?_
    exact J_ireturn rfl (by first | rfl | assumption | simp [kb_nar]) dX8_setWatch_65 (⟨rfl, _, _, rfl, hM8⟩) (by omega) (by omega)
  · skip
    refine J_iload_n 2 rfl dX8_setWatch_17 ?_
    refine J_iconst (v := 5) (by decide) dX8_setWatch_18 ?_
    refine J_bipush (v := 60) (by decide) dX8_setWatch_19 ?_
    refine cv_8_91 (i := 0) (cells' := 0) (slots' := 0) dX8_setWatch_21 (c_X8_in) ⟨by decide, by decide⟩ rfl rfl (by decide) (by decide) (Nat.le_of_ble_eq_true rfl) (fun _ _ r9 => ?_) (fun _ _ h => h.elim)
    obtain ⟨rfl, rfl⟩ := r9
    refine J_eq (st' := [.int (kb (decide (5 ≤ v) && decide (v ≤ 60))), .ref (ka S 30 0)]) rfl rfl rfl ?_
    refine J_topeq 1 (by rw [in_t (hv.resolve_left (by assumption))]; rfl) ?_
    refine J_if_ne 31 (by decide) dX8_setWatch_24 (fun c10 => ?_) (fun c10 => ?_)
    rotate_left
    · exact absurd c10 (by decide)
    refine J_iconst (v := 0) (by decide) dX8_setWatch_31 ?_
    refine cv_8_113 (cells' := 0) (slots' := 0) dX8_setWatch_32 (c_X8_failsE (x := 0)) n30 ⟨by decide, by decide⟩ rfl rfl (by decide) (by decide) (Nat.le_of_ble_eq_true rfl) (fun _ _ r11 => ?_) (fun _ _ h => h.elim)
    obtain ⟨rfl, rfl⟩ := r11
    refine J_eq (st' := [.int (kb (decide (0 < (0 : Int32))))]) rfl rfl rfl ?_
    have hM12 := MR_cd hM (v := 0)
    refine J_topeq 0 (by decide) ?_
    refine J_if_eq 40 (by decide) dX8_setWatch_35 (fun c13 => ?_) (fun c13 => ?_)
    rotate_left
    · exact absurd (by decide) c13
    refine J_aload_n 0 rfl dX8_setWatch_40 ?_
    refine gf_8_20 n30 dX8_setWatch_41 ?_
    refine J_iload_n 1 rfl dX8_setWatch_44 ?_
    refine J_iald s 0 n44 rfl rfl (vp_in_nI (by omega) (by decide)) (nI_toNat (by omega)) dX8_setWatch_45 ?_
    refine J_topeq (m.1 44 s) (hM12.1 44 s rfl) ?_
    refine J_istore_n (lv' := [(0, .ref (ka S 30 0)), (1, .int (nI s)), (2, .int v), (3, .int (m.1 44 s))]) (by decide) rfl dX8_setWatch_46 ?_
    refine J_aload_n 0 rfl dX8_setWatch_47 ?_
    refine gf_8_20 n30 dX8_setWatch_48 ?_
    refine J_iload_n 1 rfl dX8_setWatch_51 ?_
    refine J_iload_n 2 rfl dX8_setWatch_52 ?_
    refine J_iast (I' := ku (ku I 30 0 31 0) 44 0 s v) (L' := L) (R' := R) s 0 n44 rfl rfl (vp_in_nI (by omega) (by decide)) (nI_toNat (by omega)) (by rw [ku_own]; rfl) (fun k' i' h => ⟨ku_row _ _ h, rfl, rfl⟩) dX8_setWatch_53 ?_
    have hM14 := MR_ms (k := 44) (j := s) (v := v) hM12 rfl
    refine J_aload_n 0 rfl dX8_setWatch_54 ?_
    refine gf_8_23 n30 dX8_setWatch_55 ?_
    refine J_iload_n 1 rfl dX8_setWatch_58 ?_
    refine J_aload_n 0 rfl dX8_setWatch_59 ?_
    refine gf_8_85 n30 dX8_setWatch_60 ?_
    refine J_topeq ((ms m 44 s v).1 30 26) (hM14.1 30 26 rfl) ?_
    refine J_iast (I' := ku (ku (ku I 30 0 31 0) 44 0 s v) 45 0 s ((ms m 44 s v).1 30 26)) (L' := L) (R' := R) s 0 n45 rfl rfl (vp_in_nI (by omega) (by decide)) (nI_toNat (by omega)) (by rw [ku_own]; rfl) (fun k' i' h => ⟨ku_row _ _ h, rfl, rfl⟩) dX8_setWatch_63 ?_
    have hM15 := MR_ms (k := 45) (j := s) (v := ((ms m 44 s v).1 30 26)) hM14 rfl
    refine J_iload_n 3 rfl dX8_setWatch_64 ?_
    exact J_ireturn rfl (by first | rfl | assumption | simp [kb_nar]) dX8_setWatch_65 (⟨rfl, _, _, rfl, hM15⟩) (by omega) (by omega)

set_option maxRecDepth 20000 in
set_option maxHeartbeats 1000000 in
theorem c_X8_setWatch_y {cy : Nat → ClassId} {S : Nat → Nat → Nat} {I : kI} {L : kL} {R : kRf} {m : Mu} {cd : Int32} {s : Nat} {v : Int32} (hM : MR m cd I L) {Ic : kI} {Lc : kL} {Rc : kRf} {LPc : List Nat} {rc : Nat → Nat} {ln qu : List Nat} {lg B : Nat} (hR : Rel m Ic Lc Rc LPc rc ln qu lg) (hI : Inv m B) (hB : B + 90000 < 2 ^ 30) (hs : s < mS m) (hv : ¬ (v = 0 ∨ (5 ≤ v ∧ v ≤ 60))) : Con yX8_setWatch cX8_setWatch 4 (some .int) 7 0 0 cy [.ref (ka S 30 0), .int (nI s), .int v] (wm cy S I L R) (fun r w' => r = some (.int 0) ∧ MX cy S R m 2 w') kF := by
  have hn : mN m := ⟨hR.1.1, hR.2.1.1⟩
  have h10 := hI.1
  have h150 := hI.2.2.1
  have hg0 := inv_g hI (by omega)
  have hkk := hI.2.2.2.1
  have hh := hI.2.2.2.2.1
  refine Con_of (by decide +kernel) (Nat.le_of_ble_eq_true rfl) ?_
  refine J_eq (lv' := [(0, .ref (ka S 30 0)), (1, .int (nI s)), (2, .int v)]) rfl rfl rfl ?_
  refine J_aload_n 0 rfl dX8_setWatch_0 ?_
  refine J_aload_n 0 rfl dX8_setWatch_1 ?_
  refine J_iload_n 1 rfl dX8_setWatch_2 ?_
  refine cv_8_120 (cells' := 0) (slots' := 0) dX8_setWatch_3 (c_X8_isNone hM hn) n30 ⟨by decide, by decide⟩ rfl rfl (by decide) (by decide) (Nat.le_of_ble_eq_true rfl) (fun _ _ r1 => ?_) (fun _ _ h => h.elim)
  obtain ⟨rfl, rfl⟩ := r1
  refine J_eq (st' := [.int (kb (!(decide (0 ≤ (nI s)) && decide ((nI s) ≤ nI (mS m) - 1)))), .ref (ka S 30 0)]) rfl rfl rfl ?_
  refine J_topeq 0 (by rw [none_f (n := mS m) (by omega) (by assumption)]; rfl) ?_
  refine J_if_eq 13 (by decide) dX8_setWatch_6 (fun c2 => ?_) (fun c2 => ?_)
  rotate_left
  · exact absurd (by decide) c2
  refine J_iload_n 2 rfl dX8_setWatch_13 ?_
  refine J_if_eq 31 (by decide) dX8_setWatch_14 (fun c3 => ?_) (fun c3 => ?_)
  · exfalso
    exact hv (Or.inl c3)
  refine J_iload_n 2 rfl dX8_setWatch_17 ?_
  refine J_iconst (v := 5) (by decide) dX8_setWatch_18 ?_
  refine J_bipush (v := 60) (by decide) dX8_setWatch_19 ?_
  refine cv_8_91 (i := 0) (cells' := 0) (slots' := 0) dX8_setWatch_21 (c_X8_in) ⟨by decide, by decide⟩ rfl rfl (by decide) (by decide) (Nat.le_of_ble_eq_true rfl) (fun _ _ r4 => ?_) (fun _ _ h => h.elim)
  obtain ⟨rfl, rfl⟩ := r4
  refine J_eq (st' := [.int (kb (decide (5 ≤ v) && decide (v ≤ 60))), .ref (ka S 30 0)]) rfl rfl rfl ?_
  refine J_topeq 0 (by rw [in_f (fun q => hv (Or.inr q))]; rfl) ?_
  refine J_if_ne 31 (by decide) dX8_setWatch_24 (fun c5 => ?_) (fun c5 => ?_)
  · exact absurd (by decide) c5
  refine J_iconst (v := 2) (by decide) dX8_setWatch_27 ?_
  refine J_goto 32 (by decide) dX8_setWatch_28 ?_
  refine cv_8_113 (cells' := 0) (slots' := 0) dX8_setWatch_32 (c_X8_failsE (x := 2)) n30 ⟨by decide, by decide⟩ rfl rfl (by decide) (by decide) (Nat.le_of_ble_eq_true rfl) (fun _ _ r6 => ?_) (fun _ _ h => h.elim)
  obtain ⟨rfl, rfl⟩ := r6
  refine J_eq (st' := [.int (kb (decide (0 < (2 : Int32))))]) rfl rfl rfl ?_
  have hM7 := MR_cd hM (v := 2)
  refine J_topeq 1 (by decide) ?_
  refine J_if_eq 40 (by decide) dX8_setWatch_35 (fun c8 => ?_) (fun c8 => ?_)
  · exact absurd c8 (by decide)
  refine J_iconst (v := 0) (by decide) dX8_setWatch_38 ?_
  exact J_ireturn rfl (by first | rfl | assumption | simp [kb_nar]) dX8_setWatch_39 (⟨rfl, _, _, rfl, hM7⟩) (by omega) (by omega)

set_option maxRecDepth 20000 in
set_option maxHeartbeats 1000000 in
theorem c_X8_setWatch_x {cy : Nat → ClassId} {S : Nat → Nat → Nat} {I : kI} {L : kL} {R : kRf} {m : Mu} {cd : Int32} {x v : Int32} (hM : MR m cd I L) {Ic : kI} {Lc : kL} {Rc : kRf} {LPc : List Nat} {rc : Nat → Nat} {ln qu : List Nat} {lg B : Nat} (hR : Rel m Ic Lc Rc LPc rc ln qu lg) (hI : Inv m B) (hB : B + 90000 < 2 ^ 30) (hx : ∀ s, s < mS m → x ≠ nI s) : Con yX8_setWatch cX8_setWatch 4 (some .int) 7 0 0 cy [.ref (ka S 30 0), .int x, .int v] (wm cy S I L R) (fun r w' => r = some (.int 0) ∧ MX cy S R m 1 w') kF := by
  have hn : mN m := ⟨hR.1.1, hR.2.1.1⟩
  have h10 := hI.1
  have h150 := hI.2.2.1
  have hg0 := inv_g hI (by omega)
  have hkk := hI.2.2.2.1
  have hh := hI.2.2.2.2.1
  refine Con_of (by decide +kernel) (Nat.le_of_ble_eq_true rfl) ?_
  refine J_eq (lv' := [(0, .ref (ka S 30 0)), (1, .int x), (2, .int v)]) rfl rfl rfl ?_
  refine J_aload_n 0 rfl dX8_setWatch_0 ?_
  refine J_aload_n 0 rfl dX8_setWatch_1 ?_
  refine J_iload_n 1 rfl dX8_setWatch_2 ?_
  refine cv_8_120 (cells' := 0) (slots' := 0) dX8_setWatch_3 (c_X8_isNone hM hn) n30 ⟨by decide, by decide⟩ rfl rfl (by decide) (by decide) (Nat.le_of_ble_eq_true rfl) (fun _ _ r1 => ?_) (fun _ _ h => h.elim)
  obtain ⟨rfl, rfl⟩ := r1
  refine J_eq (st' := [.int (kb (!(decide (0 ≤ x) && decide (x ≤ nI (mS m) - 1)))), .ref (ka S 30 0)]) rfl rfl rfl ?_
  refine J_topeq 1 (by rw [none_t (n := mS m) (by omega) (by assumption)]; rfl) ?_
  refine J_if_eq 13 (by decide) dX8_setWatch_6 (fun c2 => ?_) (fun c2 => ?_)
  · exact absurd c2 (by decide)
  refine J_iconst (v := 1) (by decide) dX8_setWatch_9 ?_
  refine J_goto 32 (by decide) dX8_setWatch_10 ?_
  refine cv_8_113 (cells' := 0) (slots' := 0) dX8_setWatch_32 (c_X8_failsE (x := 1)) n30 ⟨by decide, by decide⟩ rfl rfl (by decide) (by decide) (Nat.le_of_ble_eq_true rfl) (fun _ _ r3 => ?_) (fun _ _ h => h.elim)
  obtain ⟨rfl, rfl⟩ := r3
  refine J_eq (st' := [.int (kb (decide (0 < (1 : Int32))))]) rfl rfl rfl ?_
  have hM4 := MR_cd hM (v := 1)
  refine J_topeq 1 (by decide) ?_
  refine J_if_eq 40 (by decide) dX8_setWatch_35 (fun c5 => ?_) (fun c5 => ?_)
  · exact absurd c5 (by decide)
  refine J_iconst (v := 0) (by decide) dX8_setWatch_38 ?_
  exact J_ireturn rfl (by first | rfl | assumption | simp [kb_nar]) dX8_setWatch_39 (⟨rfl, _, _, rfl, hM4⟩) (by omega) (by omega)

set_option maxRecDepth 20000 in
set_option maxHeartbeats 1000000 in
theorem c_X8_report_s {cy : Nat → ClassId} {S : Nat → Nat → Nat} {I : kI} {L : kL} {R : kRf} {m : Mu} {cd : Int32} {s : Nat} (hM : MR m cd I L) {Ic : kI} {Lc : kL} {Rc : kRf} {LPc : List Nat} {rc : Nat → Nat} {ln qu : List Nat} {lg B : Nat} (hR : Rel m Ic Lc Rc LPc rc ln qu lg) (hI : Inv m B) (hB : B + 90000 < 2 ^ 30) (hs : s < mS m) (ho : m.1 43 s = 0) (hw : 0 < m.1 44 s) : Con yX8_report cX8_report 3 (some .int) 7 0 0 cy [.ref (ka S 30 0), .int (nI s)] (wm cy S I L R) (fun r w' => r = some (.int (m.1 30 26 - m.1 45 s)) ∧ MX cy S R (ms m 45 s (m.1 30 26)) 0 w') kF := by
  have hn : mN m := ⟨hR.1.1, hR.2.1.1⟩
  have h10 := hI.1
  have h150 := hI.2.2.1
  have hg0 := inv_g hI (by omega)
  have hkk := hI.2.2.2.1
  have hh := hI.2.2.2.2.1
  refine Con_of (by decide +kernel) (Nat.le_of_ble_eq_true rfl) ?_
  refine J_eq (lv' := [(0, .ref (ka S 30 0)), (1, .int (nI s))]) rfl rfl rfl ?_
  refine J_aload_n 0 rfl dX8_report_0 ?_
  refine J_aload_n 0 rfl dX8_report_1 ?_
  refine J_iload_n 1 rfl dX8_report_2 ?_
  refine cv_8_120 (cells' := 0) (slots' := 0) dX8_report_3 (c_X8_isNone hM hn) n30 ⟨by decide, by decide⟩ rfl rfl (by decide) (by decide) (Nat.le_of_ble_eq_true rfl) (fun _ _ r1 => ?_) (fun _ _ h => h.elim)
  obtain ⟨rfl, rfl⟩ := r1
  refine J_eq (st' := [.int (kb (!(decide (0 ≤ (nI s)) && decide ((nI s) ≤ nI (mS m) - 1)))), .ref (ka S 30 0)]) rfl rfl rfl ?_
  refine J_topeq 0 (by rw [none_f (n := mS m) (by omega) (by assumption)]; rfl) ?_
  refine J_if_eq 13 (by decide) dX8_report_6 (fun c2 => ?_) (fun c2 => ?_)
  rotate_left
  · exact absurd (by decide) c2
  refine J_aload_n 0 rfl dX8_report_13 ?_
  refine gf_8_16 n30 dX8_report_14 ?_
  refine J_iload_n 1 rfl dX8_report_17 ?_
  refine J_zald s 2 n43 rfl rfl (vp_in_nI (by omega) (by decide)) (nI_toNat (by omega)) dX8_report_18 ?_
  refine J_topeq (m.1 43 s) (hM.1 43 s rfl) ?_
  refine J_if_ne 31 (by decide) dX8_report_19 (fun c3 => ?_) (fun c3 => ?_)
  · exfalso
    exact c3 ho
  refine J_aload_n 0 rfl dX8_report_22 ?_
  refine gf_8_20 n30 dX8_report_23 ?_
  refine J_iload_n 1 rfl dX8_report_26 ?_
  refine J_iald s 0 n44 rfl rfl (vp_in_nI (by omega) (by decide)) (nI_toNat (by omega)) dX8_report_27 ?_
  refine J_topeq (m.1 44 s) (hM.1 44 s rfl) ?_
  refine J_if_ne 35 (by decide) dX8_report_28 (fun c4 => ?_) (fun c4 => ?_)
  rotate_left
  · exfalso
    rw [c4] at hw; exact absurd hw (by decide)
  refine J_iconst (v := 0) (by decide) dX8_report_35 ?_
  refine cv_8_113 (cells' := 0) (slots' := 0) dX8_report_36 (c_X8_failsE (x := 0)) n30 ⟨by decide, by decide⟩ rfl rfl (by decide) (by decide) (Nat.le_of_ble_eq_true rfl) (fun _ _ r5 => ?_) (fun _ _ h => h.elim)
  obtain ⟨rfl, rfl⟩ := r5
  refine J_eq (st' := [.int (kb (decide (0 < (0 : Int32))))]) rfl rfl rfl ?_
  have hM6 := MR_cd hM (v := 0)
  refine J_topeq 0 (by decide) ?_
  refine J_if_eq 44 (by decide) dX8_report_39 (fun c7 => ?_) (fun c7 => ?_)
  rotate_left
  · exact absurd (by decide) c7
  refine J_aload_n 0 rfl dX8_report_44 ?_
  refine gf_8_85 n30 dX8_report_45 ?_
  refine J_topeq (m.1 30 26) (hM6.1 30 26 rfl) ?_
  refine J_aload_n 0 rfl dX8_report_48 ?_
  refine gf_8_23 n30 dX8_report_49 ?_
  refine J_iload_n 1 rfl dX8_report_52 ?_
  refine J_iald s 0 n45 rfl rfl (vp_in_nI (by omega) (by decide)) (nI_toNat (by omega)) dX8_report_53 ?_
  refine J_topeq (m.1 45 s) (hM6.1 45 s rfl) ?_
  refine J_isub dX8_report_54 ?_
  refine J_istore_n (lv' := [(0, .ref (ka S 30 0)), (1, .int (nI s)), (2, .int ((m.1 30 26) - (m.1 45 s)))]) (by decide) rfl dX8_report_55 ?_
  refine J_aload_n 0 rfl dX8_report_56 ?_
  refine gf_8_23 n30 dX8_report_57 ?_
  refine J_iload_n 1 rfl dX8_report_60 ?_
  refine J_aload_n 0 rfl dX8_report_61 ?_
  refine gf_8_85 n30 dX8_report_62 ?_
  refine J_topeq (m.1 30 26) (hM6.1 30 26 rfl) ?_
  refine J_iast (I' := ku (ku I 30 0 31 0) 45 0 s (m.1 30 26)) (L' := L) (R' := R) s 0 n45 rfl rfl (vp_in_nI (by omega) (by decide)) (nI_toNat (by omega)) (by rw [ku_own]; rfl) (fun k' i' h => ⟨ku_row _ _ h, rfl, rfl⟩) dX8_report_65 ?_
  have hM8 := MR_ms (k := 45) (j := s) (v := (m.1 30 26)) hM6 rfl
  refine J_iload_n 2 rfl dX8_report_66 ?_
  exact J_ireturn rfl (by first | rfl | assumption | simp [kb_nar]) dX8_report_67 (⟨rfl, _, _, rfl, hM8⟩) (by omega) (by omega)

set_option maxRecDepth 20000 in
set_option maxHeartbeats 1000000 in
theorem c_X8_report_y {cy : Nat → ClassId} {S : Nat → Nat → Nat} {I : kI} {L : kL} {R : kRf} {m : Mu} {cd : Int32} {s : Nat} (hM : MR m cd I L) {Ic : kI} {Lc : kL} {Rc : kRf} {LPc : List Nat} {rc : Nat → Nat} {ln qu : List Nat} {lg B : Nat} (hR : Rel m Ic Lc Rc LPc rc ln qu lg) (hI : Inv m B) (hB : B + 90000 < 2 ^ 30) (hs : s < mS m) (ho : ¬ m.1 43 s = 0) : Con yX8_report cX8_report 3 (some .int) 7 0 0 cy [.ref (ka S 30 0), .int (nI s)] (wm cy S I L R) (fun r w' => r = some (.int 0) ∧ MX cy S R m 2 w') kF := by
  have hn : mN m := ⟨hR.1.1, hR.2.1.1⟩
  have h10 := hI.1
  have h150 := hI.2.2.1
  have hg0 := inv_g hI (by omega)
  have hkk := hI.2.2.2.1
  have hh := hI.2.2.2.2.1
  refine Con_of (by decide +kernel) (Nat.le_of_ble_eq_true rfl) ?_
  refine J_eq (lv' := [(0, .ref (ka S 30 0)), (1, .int (nI s))]) rfl rfl rfl ?_
  refine J_aload_n 0 rfl dX8_report_0 ?_
  refine J_aload_n 0 rfl dX8_report_1 ?_
  refine J_iload_n 1 rfl dX8_report_2 ?_
  refine cv_8_120 (cells' := 0) (slots' := 0) dX8_report_3 (c_X8_isNone hM hn) n30 ⟨by decide, by decide⟩ rfl rfl (by decide) (by decide) (Nat.le_of_ble_eq_true rfl) (fun _ _ r1 => ?_) (fun _ _ h => h.elim)
  obtain ⟨rfl, rfl⟩ := r1
  refine J_eq (st' := [.int (kb (!(decide (0 ≤ (nI s)) && decide ((nI s) ≤ nI (mS m) - 1)))), .ref (ka S 30 0)]) rfl rfl rfl ?_
  refine J_topeq 0 (by rw [none_f (n := mS m) (by omega) (by assumption)]; rfl) ?_
  refine J_if_eq 13 (by decide) dX8_report_6 (fun c2 => ?_) (fun c2 => ?_)
  rotate_left
  · exact absurd (by decide) c2
  refine J_aload_n 0 rfl dX8_report_13 ?_
  refine gf_8_16 n30 dX8_report_14 ?_
  refine J_iload_n 1 rfl dX8_report_17 ?_
  refine J_zald s 2 n43 rfl rfl (vp_in_nI (by omega) (by decide)) (nI_toNat (by omega)) dX8_report_18 ?_
  refine J_topeq (m.1 43 s) (hM.1 43 s rfl) ?_
  refine J_if_ne 31 (by decide) dX8_report_19 (fun c3 => ?_) (fun c3 => ?_)
  rotate_left
  · exfalso
    exact ho c3
  refine J_iconst (v := 2) (by decide) dX8_report_31 ?_
  refine J_goto 36 (by decide) dX8_report_32 ?_
  refine cv_8_113 (cells' := 0) (slots' := 0) dX8_report_36 (c_X8_failsE (x := 2)) n30 ⟨by decide, by decide⟩ rfl rfl (by decide) (by decide) (Nat.le_of_ble_eq_true rfl) (fun _ _ r4 => ?_) (fun _ _ h => h.elim)
  obtain ⟨rfl, rfl⟩ := r4
  refine J_eq (st' := [.int (kb (decide (0 < (2 : Int32))))]) rfl rfl rfl ?_
  have hM5 := MR_cd hM (v := 2)
  refine J_topeq 1 (by decide) ?_
  refine J_if_eq 44 (by decide) dX8_report_39 (fun c6 => ?_) (fun c6 => ?_)
  · exact absurd c6 (by decide)
  refine J_iconst (v := 0) (by decide) dX8_report_42 ?_
  exact J_ireturn rfl (by first | rfl | assumption | simp [kb_nar]) dX8_report_43 (⟨rfl, _, _, rfl, hM5⟩) (by omega) (by omega)

set_option maxRecDepth 20000 in
set_option maxHeartbeats 1000000 in
theorem c_X8_report_z {cy : Nat → ClassId} {S : Nat → Nat → Nat} {I : kI} {L : kL} {R : kRf} {m : Mu} {cd : Int32} {s : Nat} (hM : MR m cd I L) {Ic : kI} {Lc : kL} {Rc : kRf} {LPc : List Nat} {rc : Nat → Nat} {ln qu : List Nat} {lg B : Nat} (hR : Rel m Ic Lc Rc LPc rc ln qu lg) (hI : Inv m B) (hB : B + 90000 < 2 ^ 30) (hs : s < mS m) (ho : m.1 43 s = 0) (hw : ¬ 0 < m.1 44 s) : Con yX8_report cX8_report 3 (some .int) 7 0 0 cy [.ref (ka S 30 0), .int (nI s)] (wm cy S I L R) (fun r w' => r = some (.int 0) ∧ MX cy S R m 2 w') kF := by
  have hn : mN m := ⟨hR.1.1, hR.2.1.1⟩
  have h10 := hI.1
  have h150 := hI.2.2.1
  have hg0 := inv_g hI (by omega)
  have hkk := hI.2.2.2.1
  have hh := hI.2.2.2.2.1
  have hz := hI.2.2.2.2.2.2.2.1.2.2 s
  refine Con_of (by decide +kernel) (Nat.le_of_ble_eq_true rfl) ?_
  refine J_eq (lv' := [(0, .ref (ka S 30 0)), (1, .int (nI s))]) rfl rfl rfl ?_
  refine J_aload_n 0 rfl dX8_report_0 ?_
  refine J_aload_n 0 rfl dX8_report_1 ?_
  refine J_iload_n 1 rfl dX8_report_2 ?_
  refine cv_8_120 (cells' := 0) (slots' := 0) dX8_report_3 (c_X8_isNone hM hn) n30 ⟨by decide, by decide⟩ rfl rfl (by decide) (by decide) (Nat.le_of_ble_eq_true rfl) (fun _ _ r1 => ?_) (fun _ _ h => h.elim)
  obtain ⟨rfl, rfl⟩ := r1
  refine J_eq (st' := [.int (kb (!(decide (0 ≤ (nI s)) && decide ((nI s) ≤ nI (mS m) - 1)))), .ref (ka S 30 0)]) rfl rfl rfl ?_
  refine J_topeq 0 (by rw [none_f (n := mS m) (by omega) (by assumption)]; rfl) ?_
  refine J_if_eq 13 (by decide) dX8_report_6 (fun c2 => ?_) (fun c2 => ?_)
  rotate_left
  · exact absurd (by decide) c2
  refine J_aload_n 0 rfl dX8_report_13 ?_
  refine gf_8_16 n30 dX8_report_14 ?_
  refine J_iload_n 1 rfl dX8_report_17 ?_
  refine J_zald s 2 n43 rfl rfl (vp_in_nI (by omega) (by decide)) (nI_toNat (by omega)) dX8_report_18 ?_
  refine J_topeq (m.1 43 s) (hM.1 43 s rfl) ?_
  refine J_if_ne 31 (by decide) dX8_report_19 (fun c3 => ?_) (fun c3 => ?_)
  · exfalso
    exact c3 ho
  refine J_aload_n 0 rfl dX8_report_22 ?_
  refine gf_8_20 n30 dX8_report_23 ?_
  refine J_iload_n 1 rfl dX8_report_26 ?_
  refine J_iald s 0 n44 rfl rfl (vp_in_nI (by omega) (by decide)) (nI_toNat (by omega)) dX8_report_27 ?_
  refine J_topeq (m.1 44 s) (hM.1 44 s rfl) ?_
  refine J_if_ne 35 (by decide) dX8_report_28 (fun c4 => ?_) (fun c4 => ?_)
  · exfalso
    exact c4 (by grind)
  refine J_iconst (v := 2) (by decide) dX8_report_31 ?_
  refine J_goto 36 (by decide) dX8_report_32 ?_
  refine cv_8_113 (cells' := 0) (slots' := 0) dX8_report_36 (c_X8_failsE (x := 2)) n30 ⟨by decide, by decide⟩ rfl rfl (by decide) (by decide) (Nat.le_of_ble_eq_true rfl) (fun _ _ r5 => ?_) (fun _ _ h => h.elim)
  obtain ⟨rfl, rfl⟩ := r5
  refine J_eq (st' := [.int (kb (decide (0 < (2 : Int32))))]) rfl rfl rfl ?_
  have hM6 := MR_cd hM (v := 2)
  refine J_topeq 1 (by decide) ?_
  refine J_if_eq 44 (by decide) dX8_report_39 (fun c7 => ?_) (fun c7 => ?_)
  · exact absurd c7 (by decide)
  refine J_iconst (v := 0) (by decide) dX8_report_42 ?_
  exact J_ireturn rfl (by first | rfl | assumption | simp [kb_nar]) dX8_report_43 (⟨rfl, _, _, rfl, hM6⟩) (by omega) (by omega)

set_option maxRecDepth 20000 in
set_option maxHeartbeats 1000000 in
theorem c_X8_report_x {cy : Nat → ClassId} {S : Nat → Nat → Nat} {I : kI} {L : kL} {R : kRf} {m : Mu} {cd : Int32} {x : Int32} (hM : MR m cd I L) {Ic : kI} {Lc : kL} {Rc : kRf} {LPc : List Nat} {rc : Nat → Nat} {ln qu : List Nat} {lg B : Nat} (hR : Rel m Ic Lc Rc LPc rc ln qu lg) (hI : Inv m B) (hB : B + 90000 < 2 ^ 30) (hx : ∀ s, s < mS m → x ≠ nI s) : Con yX8_report cX8_report 3 (some .int) 7 0 0 cy [.ref (ka S 30 0), .int x] (wm cy S I L R) (fun r w' => r = some (.int 0) ∧ MX cy S R m 1 w') kF := by
  have hn : mN m := ⟨hR.1.1, hR.2.1.1⟩
  have h10 := hI.1
  have h150 := hI.2.2.1
  have hg0 := inv_g hI (by omega)
  have hkk := hI.2.2.2.1
  have hh := hI.2.2.2.2.1
  refine Con_of (by decide +kernel) (Nat.le_of_ble_eq_true rfl) ?_
  refine J_eq (lv' := [(0, .ref (ka S 30 0)), (1, .int x)]) rfl rfl rfl ?_
  refine J_aload_n 0 rfl dX8_report_0 ?_
  refine J_aload_n 0 rfl dX8_report_1 ?_
  refine J_iload_n 1 rfl dX8_report_2 ?_
  refine cv_8_120 (cells' := 0) (slots' := 0) dX8_report_3 (c_X8_isNone hM hn) n30 ⟨by decide, by decide⟩ rfl rfl (by decide) (by decide) (Nat.le_of_ble_eq_true rfl) (fun _ _ r1 => ?_) (fun _ _ h => h.elim)
  obtain ⟨rfl, rfl⟩ := r1
  refine J_eq (st' := [.int (kb (!(decide (0 ≤ x) && decide (x ≤ nI (mS m) - 1)))), .ref (ka S 30 0)]) rfl rfl rfl ?_
  refine J_topeq 1 (by rw [none_t (n := mS m) (by omega) (by assumption)]; rfl) ?_
  refine J_if_eq 13 (by decide) dX8_report_6 (fun c2 => ?_) (fun c2 => ?_)
  · exact absurd c2 (by decide)
  refine J_iconst (v := 1) (by decide) dX8_report_9 ?_
  refine J_goto 36 (by decide) dX8_report_10 ?_
  refine cv_8_113 (cells' := 0) (slots' := 0) dX8_report_36 (c_X8_failsE (x := 1)) n30 ⟨by decide, by decide⟩ rfl rfl (by decide) (by decide) (Nat.le_of_ble_eq_true rfl) (fun _ _ r3 => ?_) (fun _ _ h => h.elim)
  obtain ⟨rfl, rfl⟩ := r3
  refine J_eq (st' := [.int (kb (decide (0 < (1 : Int32))))]) rfl rfl rfl ?_
  have hM4 := MR_cd hM (v := 1)
  refine J_topeq 1 (by decide) ?_
  refine J_if_eq 44 (by decide) dX8_report_39 (fun c5 => ?_) (fun c5 => ?_)
  · exact absurd c5 (by decide)
  refine J_iconst (v := 0) (by decide) dX8_report_42 ?_
  exact J_ireturn rfl (by first | rfl | assumption | simp [kb_nar]) dX8_report_43 (⟨rfl, _, _, rfl, hM4⟩) (by omega) (by omega)

set_option maxRecDepth 20000 in
set_option maxHeartbeats 1000000 in
theorem c_X8_sinceReport_s {cy : Nat → ClassId} {S : Nat → Nat → Nat} {I : kI} {L : kL} {R : kRf} {m : Mu} {cd : Int32} {s : Nat} (hM : MR m cd I L) {Ic : kI} {Lc : kL} {Rc : kRf} {LPc : List Nat} {rc : Nat → Nat} {ln qu : List Nat} {lg B : Nat} (hR : Rel m Ic Lc Rc LPc rc ln qu lg) (hI : Inv m B) (hB : B + 90000 < 2 ^ 30) (hs : s < mS m) (hw : 0 < m.1 44 s) : Con yX8_sinceReport cX8_sinceReport 2 (some .int) 7 0 0 cy [.ref (ka S 30 0), .int (nI s)] (wm cy S I L R) (fun r w' => r = some (.int (m.1 30 26 - m.1 45 s)) ∧ MX cy S R m 0 w') kF := by
  have hn : mN m := ⟨hR.1.1, hR.2.1.1⟩
  have h10 := hI.1
  have h150 := hI.2.2.1
  have hg0 := inv_g hI (by omega)
  have hkk := hI.2.2.2.1
  have hh := hI.2.2.2.2.1
  refine Con_of (by decide +kernel) (Nat.le_of_ble_eq_true rfl) ?_
  refine J_eq (lv' := [(0, .ref (ka S 30 0)), (1, .int (nI s))]) rfl rfl rfl ?_
  refine J_aload_n 0 rfl dX8_sinceReport_0 ?_
  refine J_aload_n 0 rfl dX8_sinceReport_1 ?_
  refine J_iload_n 1 rfl dX8_sinceReport_2 ?_
  refine cv_8_120 (cells' := 0) (slots' := 0) dX8_sinceReport_3 (c_X8_isNone hM hn) n30 ⟨by decide, by decide⟩ rfl rfl (by decide) (by decide) (Nat.le_of_ble_eq_true rfl) (fun _ _ r1 => ?_) (fun _ _ h => h.elim)
  obtain ⟨rfl, rfl⟩ := r1
  refine J_eq (st' := [.int (kb (!(decide (0 ≤ (nI s)) && decide ((nI s) ≤ nI (mS m) - 1)))), .ref (ka S 30 0)]) rfl rfl rfl ?_
  refine J_topeq 0 (by rw [none_f (n := mS m) (by omega) (by assumption)]; rfl) ?_
  refine J_if_eq 13 (by decide) dX8_sinceReport_6 (fun c2 => ?_) (fun c2 => ?_)
  rotate_left
  · exact absurd (by decide) c2
  refine J_aload_n 0 rfl dX8_sinceReport_13 ?_
  refine gf_8_20 n30 dX8_sinceReport_14 ?_
  refine J_iload_n 1 rfl dX8_sinceReport_17 ?_
  refine J_iald s 0 n44 rfl rfl (vp_in_nI (by omega) (by decide)) (nI_toNat (by omega)) dX8_sinceReport_18 ?_
  refine J_topeq (m.1 44 s) (hM.1 44 s rfl) ?_
  refine J_if_ne 26 (by decide) dX8_sinceReport_19 (fun c3 => ?_) (fun c3 => ?_)
  rotate_left
  · exfalso
    rw [c3] at hw; exact absurd hw (by decide)
  refine J_iconst (v := 0) (by decide) dX8_sinceReport_26 ?_
  refine cv_8_113 (cells' := 0) (slots' := 0) dX8_sinceReport_27 (c_X8_failsE (x := 0)) n30 ⟨by decide, by decide⟩ rfl rfl (by decide) (by decide) (Nat.le_of_ble_eq_true rfl) (fun _ _ r4 => ?_) (fun _ _ h => h.elim)
  obtain ⟨rfl, rfl⟩ := r4
  refine J_eq (st' := [.int (kb (decide (0 < (0 : Int32))))]) rfl rfl rfl ?_
  have hM5 := MR_cd hM (v := 0)
  refine J_topeq 0 (by decide) ?_
  refine J_if_eq 37 (by decide) dX8_sinceReport_30 (fun c6 => ?_) (fun c6 => ?_)
  rotate_left
  · exact absurd (by decide) c6
  refine J_aload_n 0 rfl dX8_sinceReport_37 ?_
  refine gf_8_85 n30 dX8_sinceReport_38 ?_
  refine J_topeq (m.1 30 26) (hM5.1 30 26 rfl) ?_
  refine J_aload_n 0 rfl dX8_sinceReport_41 ?_
  refine gf_8_23 n30 dX8_sinceReport_42 ?_
  refine J_iload_n 1 rfl dX8_sinceReport_45 ?_
  refine J_iald s 0 n45 rfl rfl (vp_in_nI (by omega) (by decide)) (nI_toNat (by omega)) dX8_sinceReport_46 ?_
  refine J_topeq (m.1 45 s) (hM5.1 45 s rfl) ?_
  refine J_isub dX8_sinceReport_47 ?_
  exact J_ireturn rfl (by first | rfl | assumption | simp [kb_nar]) dX8_sinceReport_48 (⟨rfl, _, _, rfl, hM5⟩) (by omega) (by omega)

set_option maxRecDepth 20000 in
set_option maxHeartbeats 1000000 in
theorem c_X8_sinceReport_y {cy : Nat → ClassId} {S : Nat → Nat → Nat} {I : kI} {L : kL} {R : kRf} {m : Mu} {cd : Int32} {s : Nat} (hM : MR m cd I L) {Ic : kI} {Lc : kL} {Rc : kRf} {LPc : List Nat} {rc : Nat → Nat} {ln qu : List Nat} {lg B : Nat} (hR : Rel m Ic Lc Rc LPc rc ln qu lg) (hI : Inv m B) (hB : B + 90000 < 2 ^ 30) (hs : s < mS m) (hw : ¬ 0 < m.1 44 s) : Con yX8_sinceReport cX8_sinceReport 2 (some .int) 7 0 0 cy [.ref (ka S 30 0), .int (nI s)] (wm cy S I L R) (fun r w' => r = some (.int 0) ∧ MX cy S R m 2 w') kF := by
  have hn : mN m := ⟨hR.1.1, hR.2.1.1⟩
  have h10 := hI.1
  have h150 := hI.2.2.1
  have hg0 := inv_g hI (by omega)
  have hkk := hI.2.2.2.1
  have hh := hI.2.2.2.2.1
  have hz := hI.2.2.2.2.2.2.2.1.2.2 s
  refine Con_of (by decide +kernel) (Nat.le_of_ble_eq_true rfl) ?_
  refine J_eq (lv' := [(0, .ref (ka S 30 0)), (1, .int (nI s))]) rfl rfl rfl ?_
  refine J_aload_n 0 rfl dX8_sinceReport_0 ?_
  refine J_aload_n 0 rfl dX8_sinceReport_1 ?_
  refine J_iload_n 1 rfl dX8_sinceReport_2 ?_
  refine cv_8_120 (cells' := 0) (slots' := 0) dX8_sinceReport_3 (c_X8_isNone hM hn) n30 ⟨by decide, by decide⟩ rfl rfl (by decide) (by decide) (Nat.le_of_ble_eq_true rfl) (fun _ _ r1 => ?_) (fun _ _ h => h.elim)
  obtain ⟨rfl, rfl⟩ := r1
  refine J_eq (st' := [.int (kb (!(decide (0 ≤ (nI s)) && decide ((nI s) ≤ nI (mS m) - 1)))), .ref (ka S 30 0)]) rfl rfl rfl ?_
  refine J_topeq 0 (by rw [none_f (n := mS m) (by omega) (by assumption)]; rfl) ?_
  refine J_if_eq 13 (by decide) dX8_sinceReport_6 (fun c2 => ?_) (fun c2 => ?_)
  rotate_left
  · exact absurd (by decide) c2
  refine J_aload_n 0 rfl dX8_sinceReport_13 ?_
  refine gf_8_20 n30 dX8_sinceReport_14 ?_
  refine J_iload_n 1 rfl dX8_sinceReport_17 ?_
  refine J_iald s 0 n44 rfl rfl (vp_in_nI (by omega) (by decide)) (nI_toNat (by omega)) dX8_sinceReport_18 ?_
  refine J_topeq (m.1 44 s) (hM.1 44 s rfl) ?_
  refine J_if_ne 26 (by decide) dX8_sinceReport_19 (fun c3 => ?_) (fun c3 => ?_)
  · exfalso
    exact c3 (by grind)
  refine J_iconst (v := 2) (by decide) dX8_sinceReport_22 ?_
  refine J_goto 27 (by decide) dX8_sinceReport_23 ?_
  refine cv_8_113 (cells' := 0) (slots' := 0) dX8_sinceReport_27 (c_X8_failsE (x := 2)) n30 ⟨by decide, by decide⟩ rfl rfl (by decide) (by decide) (Nat.le_of_ble_eq_true rfl) (fun _ _ r4 => ?_) (fun _ _ h => h.elim)
  obtain ⟨rfl, rfl⟩ := r4
  refine J_eq (st' := [.int (kb (decide (0 < (2 : Int32))))]) rfl rfl rfl ?_
  have hM5 := MR_cd hM (v := 2)
  refine J_topeq 1 (by decide) ?_
  refine J_if_eq 37 (by decide) dX8_sinceReport_30 (fun c6 => ?_) (fun c6 => ?_)
  · exact absurd c6 (by decide)
  refine J_iconst (v := 0) (by decide) dX8_sinceReport_33 ?_
  refine J_goto 48 (by decide) dX8_sinceReport_34 ?_
  exact J_ireturn rfl (by first | rfl | assumption | simp [kb_nar]) dX8_sinceReport_48 (⟨rfl, _, _, rfl, hM5⟩) (by omega) (by omega)

set_option maxRecDepth 20000 in
set_option maxHeartbeats 1000000 in
theorem c_X8_sinceReport_x {cy : Nat → ClassId} {S : Nat → Nat → Nat} {I : kI} {L : kL} {R : kRf} {m : Mu} {cd : Int32} {x : Int32} (hM : MR m cd I L) {Ic : kI} {Lc : kL} {Rc : kRf} {LPc : List Nat} {rc : Nat → Nat} {ln qu : List Nat} {lg B : Nat} (hR : Rel m Ic Lc Rc LPc rc ln qu lg) (hI : Inv m B) (hB : B + 90000 < 2 ^ 30) (hx : ∀ s, s < mS m → x ≠ nI s) : Con yX8_sinceReport cX8_sinceReport 2 (some .int) 7 0 0 cy [.ref (ka S 30 0), .int x] (wm cy S I L R) (fun r w' => r = some (.int 0) ∧ MX cy S R m 1 w') kF := by
  have hn : mN m := ⟨hR.1.1, hR.2.1.1⟩
  have h10 := hI.1
  have h150 := hI.2.2.1
  have hg0 := inv_g hI (by omega)
  have hkk := hI.2.2.2.1
  have hh := hI.2.2.2.2.1
  refine Con_of (by decide +kernel) (Nat.le_of_ble_eq_true rfl) ?_
  refine J_eq (lv' := [(0, .ref (ka S 30 0)), (1, .int x)]) rfl rfl rfl ?_
  refine J_aload_n 0 rfl dX8_sinceReport_0 ?_
  refine J_aload_n 0 rfl dX8_sinceReport_1 ?_
  refine J_iload_n 1 rfl dX8_sinceReport_2 ?_
  refine cv_8_120 (cells' := 0) (slots' := 0) dX8_sinceReport_3 (c_X8_isNone hM hn) n30 ⟨by decide, by decide⟩ rfl rfl (by decide) (by decide) (Nat.le_of_ble_eq_true rfl) (fun _ _ r1 => ?_) (fun _ _ h => h.elim)
  obtain ⟨rfl, rfl⟩ := r1
  refine J_eq (st' := [.int (kb (!(decide (0 ≤ x) && decide (x ≤ nI (mS m) - 1)))), .ref (ka S 30 0)]) rfl rfl rfl ?_
  refine J_topeq 1 (by rw [none_t (n := mS m) (by omega) (by assumption)]; rfl) ?_
  refine J_if_eq 13 (by decide) dX8_sinceReport_6 (fun c2 => ?_) (fun c2 => ?_)
  · exact absurd c2 (by decide)
  refine J_iconst (v := 1) (by decide) dX8_sinceReport_9 ?_
  refine J_goto 27 (by decide) dX8_sinceReport_10 ?_
  refine cv_8_113 (cells' := 0) (slots' := 0) dX8_sinceReport_27 (c_X8_failsE (x := 1)) n30 ⟨by decide, by decide⟩ rfl rfl (by decide) (by decide) (Nat.le_of_ble_eq_true rfl) (fun _ _ r3 => ?_) (fun _ _ h => h.elim)
  obtain ⟨rfl, rfl⟩ := r3
  refine J_eq (st' := [.int (kb (decide (0 < (1 : Int32))))]) rfl rfl rfl ?_
  have hM4 := MR_cd hM (v := 1)
  refine J_topeq 1 (by decide) ?_
  refine J_if_eq 37 (by decide) dX8_sinceReport_30 (fun c5 => ?_) (fun c5 => ?_)
  · exact absurd c5 (by decide)
  refine J_iconst (v := 0) (by decide) dX8_sinceReport_33 ?_
  refine J_goto 48 (by decide) dX8_sinceReport_34 ?_
  exact J_ireturn rfl (by first | rfl | assumption | simp [kb_nar]) dX8_sinceReport_48 (⟨rfl, _, _, rfl, hM4⟩) (by omega) (by omega)

set_option maxRecDepth 20000 in
set_option maxHeartbeats 1000000 in
theorem c_X8_isNoEntry_s {cy : Nat → ClassId} {S : Nat → Nat → Nat} {I : kI} {L : kL} {R : kRf} {m : Mu} {cd : Int32} {j : Nat} (hM : MR m cd I L) {Ic : kI} {Lc : kL} {Rc : kRf} {LPc : List Nat} {rc : Nat → Nat} {ln qu : List Nat} {lg B : Nat} (hR : Rel m Ic Lc Rc LPc rc ln qu lg) (hI : Inv m B) (hB : B + 90000 < 2 ^ 30) (hlg : lg < 2 ^ 30) (hj : j < min lg 60) : Con yX8_isNoEntry cX8_isNoEntry 2 (some .boolean) 2 0 0 cy [.ref (ka S 30 0), .int (nI j)] (wm cy S I L R) (fun r w' => r = some (.int 0) ∧ MX cy S R m 0 w') kF := by
  have hn : mN m := ⟨hR.1.1, hR.2.1.1⟩
  have h10 := hI.1
  have h150 := hI.2.2.1
  have hg0 := inv_g hI (by omega)
  have hkk := hI.2.2.2.1
  have hh := hI.2.2.2.2.1
  refine Con_of (by decide +kernel) (Nat.le_of_ble_eq_true rfl) ?_
  refine J_eq (lv' := [(0, .ref (ka S 30 0)), (1, .int (nI j))]) rfl rfl rfl ?_
  refine J_aload_n 0 rfl dX8_isNoEntry_0 ?_
  refine J_iload_n 1 rfl dX8_isNoEntry_1 ?_
  refine J_iconst (v := 0) (by decide) dX8_isNoEntry_2 ?_
  refine J_aload_n 0 rfl dX8_isNoEntry_3 ?_
  refine gf_8_82 n30 dX8_isNoEntry_4 ?_
  refine J_topeq (nI lg) ((hM.1 30 27 rfl).trans (by exact hR.2.2.2.2.1.1)) ?_
  refine J_bipush (v := 60) (by decide) dX8_isNoEntry_7 ?_
  refine J_icmp_ge 19 (by decide) dX8_isNoEntry_9 (fun c1 => ?_) (fun c1 => ?_)
  · have Nc1 : 60 ≤ lg := (nI_leI (a := 60) (b := lg) (by omega) (by omega)).mp c1
    refine J_bipush (v := 60) (by decide) dX8_isNoEntry_19 ?_
    refine J_iconst (v := 1) (by decide) dX8_isNoEntry_21 ?_
    refine J_isub dX8_isNoEntry_22 ?_
    refine J_topeq (nI (min lg 60) - 1) (by first | (rw [Nat.min_eq_left (by omega)]) | (rw [Nat.min_eq_right (by omega)]; rfl)) ?_
    refine cv_8_91 (i := 0) (cells' := 0) (slots' := 0) dX8_isNoEntry_23 (c_X8_in) ⟨by decide, by decide⟩ rfl rfl (by decide) (by decide) (Nat.le_of_ble_eq_true rfl) (fun _ _ r2 => ?_) (fun _ _ h => h.elim)
    obtain ⟨rfl, rfl⟩ := r2
    refine J_eq (st' := [.int (kb (decide (0 ≤ (nI j)) && decide ((nI j) ≤ (nI (min lg 60) - 1)))), .ref (ka S 30 0)]) rfl rfl rfl ?_
    refine J_topeq 1 (by rw [nb_t (none_f (n := min lg 60) (by omega) hj)]; rfl) ?_
    refine J_if_eq 33 (by decide) dX8_isNoEntry_26 (fun c3 => ?_) (fun c3 => ?_)
    · exact absurd c3 (by decide)
    refine J_iconst (v := 0) (by decide) dX8_isNoEntry_29 ?_
    refine J_goto 34 (by decide) dX8_isNoEntry_30 ?_
    refine cv_8_113 (cells' := 0) (slots' := 0) dX8_isNoEntry_34 (c_X8_failsE (x := 0)) n30 ⟨by decide, by decide⟩ rfl rfl (by decide) (by decide) (Nat.le_of_ble_eq_true rfl) (fun _ _ r4 => ?_) (fun _ _ h => h.elim)
    obtain ⟨rfl, rfl⟩ := r4
    refine J_eq (st' := [.int (kb (decide (0 < (0 : Int32))))]) rfl rfl rfl ?_
    have hM5 := MR_cd hM (v := 0)
    refine J_topeq 0 (by decide) ?_
    exact J_ireturn rfl (by first | rfl | assumption | simp [kb_nar]) dX8_isNoEntry_37 (⟨rfl, _, _, rfl, hM5⟩) (by omega) (by omega)
  · have Nc1 : ¬ (60 ≤ lg) := fun q => c1 ((nI_leI (a := 60) (b := lg) (by omega) (by omega)).mpr q)
    refine J_aload_n 0 rfl dX8_isNoEntry_12 ?_
    refine gf_8_82 n30 dX8_isNoEntry_13 ?_
    refine J_topeq (nI lg) ((hM.1 30 27 rfl).trans (by exact hR.2.2.2.2.1.1)) ?_
    refine J_goto 21 (by decide) dX8_isNoEntry_16 ?_
    refine J_iconst (v := 1) (by decide) dX8_isNoEntry_21 ?_
    refine J_isub dX8_isNoEntry_22 ?_
    refine J_topeq (nI (min lg 60) - 1) (by first | (rw [Nat.min_eq_left (by omega)]) | (rw [Nat.min_eq_right (by omega)]; rfl)) ?_
    refine cv_8_91 (i := 0) (cells' := 0) (slots' := 0) dX8_isNoEntry_23 (c_X8_in) ⟨by decide, by decide⟩ rfl rfl (by decide) (by decide) (Nat.le_of_ble_eq_true rfl) (fun _ _ r6 => ?_) (fun _ _ h => h.elim)
    obtain ⟨rfl, rfl⟩ := r6
    refine J_eq (st' := [.int (kb (decide (0 ≤ (nI j)) && decide ((nI j) ≤ (nI (min lg 60) - 1)))), .ref (ka S 30 0)]) rfl rfl rfl ?_
    refine J_topeq 1 (by rw [nb_t (none_f (n := min lg 60) (by omega) hj)]; rfl) ?_
    refine J_if_eq 33 (by decide) dX8_isNoEntry_26 (fun c7 => ?_) (fun c7 => ?_)
    · exact absurd c7 (by decide)
    refine J_iconst (v := 0) (by decide) dX8_isNoEntry_29 ?_
    refine J_goto 34 (by decide) dX8_isNoEntry_30 ?_
    refine cv_8_113 (cells' := 0) (slots' := 0) dX8_isNoEntry_34 (c_X8_failsE (x := 0)) n30 ⟨by decide, by decide⟩ rfl rfl (by decide) (by decide) (Nat.le_of_ble_eq_true rfl) (fun _ _ r8 => ?_) (fun _ _ h => h.elim)
    obtain ⟨rfl, rfl⟩ := r8
    refine J_eq (st' := [.int (kb (decide (0 < (0 : Int32))))]) rfl rfl rfl ?_
    have hM9 := MR_cd hM (v := 0)
    refine J_topeq 0 (by decide) ?_
    exact J_ireturn rfl (by first | rfl | assumption | simp [kb_nar]) dX8_isNoEntry_37 (⟨rfl, _, _, rfl, hM9⟩) (by omega) (by omega)

set_option maxRecDepth 20000 in
set_option maxHeartbeats 1000000 in
theorem c_X8_isNoEntry_x {cy : Nat → ClassId} {S : Nat → Nat → Nat} {I : kI} {L : kL} {R : kRf} {m : Mu} {cd : Int32} {x : Int32} (hM : MR m cd I L) {Ic : kI} {Lc : kL} {Rc : kRf} {LPc : List Nat} {rc : Nat → Nat} {ln qu : List Nat} {lg B : Nat} (hR : Rel m Ic Lc Rc LPc rc ln qu lg) (hI : Inv m B) (hB : B + 90000 < 2 ^ 30) (hlg : lg < 2 ^ 30) (hx : ∀ s, s < min lg 60 → x ≠ nI s) : Con yX8_isNoEntry cX8_isNoEntry 2 (some .boolean) 2 0 0 cy [.ref (ka S 30 0), .int x] (wm cy S I L R) (fun r w' => r = some (.int 1) ∧ MX cy S R m 1 w') kF := by
  have hn : mN m := ⟨hR.1.1, hR.2.1.1⟩
  have h10 := hI.1
  have h150 := hI.2.2.1
  have hg0 := inv_g hI (by omega)
  have hkk := hI.2.2.2.1
  have hh := hI.2.2.2.2.1
  refine Con_of (by decide +kernel) (Nat.le_of_ble_eq_true rfl) ?_
  refine J_eq (lv' := [(0, .ref (ka S 30 0)), (1, .int x)]) rfl rfl rfl ?_
  refine J_aload_n 0 rfl dX8_isNoEntry_0 ?_
  refine J_iload_n 1 rfl dX8_isNoEntry_1 ?_
  refine J_iconst (v := 0) (by decide) dX8_isNoEntry_2 ?_
  refine J_aload_n 0 rfl dX8_isNoEntry_3 ?_
  refine gf_8_82 n30 dX8_isNoEntry_4 ?_
  refine J_topeq (nI lg) ((hM.1 30 27 rfl).trans (by exact hR.2.2.2.2.1.1)) ?_
  refine J_bipush (v := 60) (by decide) dX8_isNoEntry_7 ?_
  refine J_icmp_ge 19 (by decide) dX8_isNoEntry_9 (fun c1 => ?_) (fun c1 => ?_)
  · have Nc1 : 60 ≤ lg := (nI_leI (a := 60) (b := lg) (by omega) (by omega)).mp c1
    refine J_bipush (v := 60) (by decide) dX8_isNoEntry_19 ?_
    refine J_iconst (v := 1) (by decide) dX8_isNoEntry_21 ?_
    refine J_isub dX8_isNoEntry_22 ?_
    refine J_topeq (nI (min lg 60) - 1) (by first | (rw [Nat.min_eq_left (by omega)]) | (rw [Nat.min_eq_right (by omega)]; rfl)) ?_
    refine cv_8_91 (i := 0) (cells' := 0) (slots' := 0) dX8_isNoEntry_23 (c_X8_in) ⟨by decide, by decide⟩ rfl rfl (by decide) (by decide) (Nat.le_of_ble_eq_true rfl) (fun _ _ r2 => ?_) (fun _ _ h => h.elim)
    obtain ⟨rfl, rfl⟩ := r2
    refine J_eq (st' := [.int (kb (decide (0 ≤ x) && decide (x ≤ (nI (min lg 60) - 1)))), .ref (ka S 30 0)]) rfl rfl rfl ?_
    refine J_topeq 0 (by rw [nb_f (none_t (n := min lg 60) (by omega) hx)]; rfl) ?_
    refine J_if_eq 33 (by decide) dX8_isNoEntry_26 (fun c3 => ?_) (fun c3 => ?_)
    rotate_left
    · exact absurd (by decide) c3
    refine J_iconst (v := 1) (by decide) dX8_isNoEntry_33 ?_
    refine cv_8_113 (cells' := 0) (slots' := 0) dX8_isNoEntry_34 (c_X8_failsE (x := 1)) n30 ⟨by decide, by decide⟩ rfl rfl (by decide) (by decide) (Nat.le_of_ble_eq_true rfl) (fun _ _ r4 => ?_) (fun _ _ h => h.elim)
    obtain ⟨rfl, rfl⟩ := r4
    refine J_eq (st' := [.int (kb (decide (0 < (1 : Int32))))]) rfl rfl rfl ?_
    have hM5 := MR_cd hM (v := 1)
    refine J_topeq 1 (by decide) ?_
    exact J_ireturn rfl (by first | rfl | assumption | simp [kb_nar]) dX8_isNoEntry_37 (⟨rfl, _, _, rfl, hM5⟩) (by omega) (by omega)
  · have Nc1 : ¬ (60 ≤ lg) := fun q => c1 ((nI_leI (a := 60) (b := lg) (by omega) (by omega)).mpr q)
    refine J_aload_n 0 rfl dX8_isNoEntry_12 ?_
    refine gf_8_82 n30 dX8_isNoEntry_13 ?_
    refine J_topeq (nI lg) ((hM.1 30 27 rfl).trans (by exact hR.2.2.2.2.1.1)) ?_
    refine J_goto 21 (by decide) dX8_isNoEntry_16 ?_
    refine J_iconst (v := 1) (by decide) dX8_isNoEntry_21 ?_
    refine J_isub dX8_isNoEntry_22 ?_
    refine J_topeq (nI (min lg 60) - 1) (by first | (rw [Nat.min_eq_left (by omega)]) | (rw [Nat.min_eq_right (by omega)]; rfl)) ?_
    refine cv_8_91 (i := 0) (cells' := 0) (slots' := 0) dX8_isNoEntry_23 (c_X8_in) ⟨by decide, by decide⟩ rfl rfl (by decide) (by decide) (Nat.le_of_ble_eq_true rfl) (fun _ _ r6 => ?_) (fun _ _ h => h.elim)
    obtain ⟨rfl, rfl⟩ := r6
    refine J_eq (st' := [.int (kb (decide (0 ≤ x) && decide (x ≤ (nI (min lg 60) - 1)))), .ref (ka S 30 0)]) rfl rfl rfl ?_
    refine J_topeq 0 (by rw [nb_f (none_t (n := min lg 60) (by omega) hx)]; rfl) ?_
    refine J_if_eq 33 (by decide) dX8_isNoEntry_26 (fun c7 => ?_) (fun c7 => ?_)
    rotate_left
    · exact absurd (by decide) c7
    refine J_iconst (v := 1) (by decide) dX8_isNoEntry_33 ?_
    refine cv_8_113 (cells' := 0) (slots' := 0) dX8_isNoEntry_34 (c_X8_failsE (x := 1)) n30 ⟨by decide, by decide⟩ rfl rfl (by decide) (by decide) (Nat.le_of_ble_eq_true rfl) (fun _ _ r8 => ?_) (fun _ _ h => h.elim)
    obtain ⟨rfl, rfl⟩ := r8
    refine J_eq (st' := [.int (kb (decide (0 < (1 : Int32))))]) rfl rfl rfl ?_
    have hM9 := MR_cd hM (v := 1)
    refine J_topeq 1 (by decide) ?_
    exact J_ireturn rfl (by first | rfl | assumption | simp [kb_nar]) dX8_isNoEntry_37 (⟨rfl, _, _, rfl, hM9⟩) (by omega) (by omega)

set_option maxRecDepth 20000 in
set_option maxHeartbeats 1000000 in
theorem c_X8_entry_s {cy : Nat → ClassId} {S : Nat → Nat → Nat} {I : kI} {L : kL} {R : kRf} {m : Mu} {cd : Int32} {j : Nat} (hM : MR m cd I L) {Ic : kI} {Lc : kL} {Rc : kRf} {LPc : List Nat} {rc : Nat → Nat} {ln qu : List Nat} {lg B : Nat} (hR : Rel m Ic Lc Rc LPc rc ln qu lg) (hI : Inv m B) (hB : B + 90000 < 2 ^ 30) (hlg : lg < 2 ^ 30) (hj : j < min lg 60) : Con yX8_entry cX8_entry 2 (some .int) 0 0 0 cy [.ref (ka S 30 0), .int (nI j)] (wm cy S I L R) (kRet (some (.int (nI ((lg - 1 - j) % 60)))) (wm cy S I L R)) kF := by
  have hn : mN m := ⟨hR.1.1, hR.2.1.1⟩
  have h10 := hI.1
  have h150 := hI.2.2.1
  have hg0 := inv_g hI (by omega)
  have hkk := hI.2.2.2.1
  have hh := hI.2.2.2.2.1
  refine Con_of (by decide +kernel) (Nat.le_of_ble_eq_true rfl) ?_
  refine J_eq (lv' := [(0, .ref (ka S 30 0)), (1, .int (nI j))]) rfl rfl rfl ?_
  refine J_aload_n 0 rfl dX8_entry_0 ?_
  refine gf_8_82 n30 dX8_entry_1 ?_
  refine J_topeq (nI lg) ((hM.1 30 27 rfl).trans (by exact hR.2.2.2.2.1.1)) ?_
  refine J_iconst (v := 1) (by decide) dX8_entry_4 ?_
  refine J_isub dX8_entry_5 ?_
  refine J_iload_n 1 rfl dX8_entry_6 ?_
  refine J_isub dX8_entry_7 ?_
  refine J_bipush (v := 60) (by decide) dX8_entry_8 ?_
  refine J_irem (by decide) dX8_entry_10 ?_
  exact J_ireturn rfl (by first | rfl | assumption | simp [kb_nar]) dX8_entry_11 (⟨by rw [show nI lg - 1 = nI (lg - 1) from nI_subL (a := lg) (n := 1) (by omega), nI_subL (by omega), nI_m60 (by omega)], rfl⟩) (by omega) (by omega)

set_option maxRecDepth 20000 in
set_option maxHeartbeats 1000000 in
theorem c_X8_logTime_s {cy : Nat → ClassId} {S : Nat → Nat → Nat} {I : kI} {L : kL} {R : kRf} {m : Mu} {cd : Int32} {j : Nat} (hM : MR m cd I L) {Ic : kI} {Lc : kL} {Rc : kRf} {LPc : List Nat} {rc : Nat → Nat} {ln qu : List Nat} {lg B : Nat} (hR : Rel m Ic Lc Rc LPc rc ln qu lg) (hI : Inv m B) (hB : B + 90000 < 2 ^ 30) (hlg : lg < 2 ^ 30) (hj : j < min lg 60) : Con yX8_logTime cX8_logTime 2 (some .int) 7 0 0 cy [.ref (ka S 30 0), .int (nI j)] (wm cy S I L R) (fun r w' => r = some (.int (m.1 68 ((lg - 1 - j) % 60))) ∧ MX cy S R m 0 w') kF := by
  have hn : mN m := ⟨hR.1.1, hR.2.1.1⟩
  have h10 := hI.1
  have h150 := hI.2.2.1
  have hg0 := inv_g hI (by omega)
  have hkk := hI.2.2.2.1
  have hh := hI.2.2.2.2.1
  have hsl : (lg - 1 - j) % 60 < 60 := Nat.mod_lt _ (by decide)
  have hnr := (hR.2.2.2.2.1.2.2.2.2 _ hsl).2.2.2
  refine Con_of (by decide +kernel) (Nat.le_of_ble_eq_true rfl) ?_
  refine J_eq (lv' := [(0, .ref (ka S 30 0)), (1, .int (nI j))]) rfl rfl rfl ?_
  refine J_aload_n 0 rfl dX8_logTime_0 ?_
  refine J_iload_n 1 rfl dX8_logTime_1 ?_
  refine cv_8_219 (cells' := 0) (slots' := 0) dX8_logTime_2 (c_X8_isNoEntry_s hM hR hI hB hlg hj) n30 ⟨by decide, by decide⟩ rfl rfl (by decide) (by decide) (Nat.le_of_ble_eq_true rfl) (fun _ _ r2 => ?_) (fun _ _ h => h.elim)
  obtain ⟨rfl, I1, L1, rfl, hM1⟩ := r2
  refine J_eq (st' := [.int 0]) rfl rfl rfl ?_
  refine J_if_eq 12 (by decide) dX8_logTime_5 (fun c3 => ?_) (fun c3 => ?_)
  rotate_left
  · exact absurd (by decide) c3
  refine J_aload_n 0 rfl dX8_logTime_12 ?_
  refine gf_8_69 n30 dX8_logTime_13 ?_
  refine J_aload_n 0 rfl dX8_logTime_16 ?_
  refine J_iload_n 1 rfl dX8_logTime_17 ?_
  refine cv_8_222 (cells' := 0) (slots' := 0) dX8_logTime_18 (c_X8_entry_s hM1 hR hI hB hlg hj) n30 ⟨by decide, by decide⟩ rfl rfl (by decide) (by decide) (Nat.le_of_ble_eq_true rfl) (fun _ _ r4 => ?_) (fun _ _ h => h.elim)
  obtain ⟨rfl, rfl⟩ := r4
  refine J_eq (st' := [.int (nI ((lg - 1 - j) % 60)), .ref (ka S 68 0)]) rfl rfl rfl ?_
  refine J_iald ((lg - 1 - j) % 60) 0 n68 rfl rfl (vp_in_nI (by omega) (by decide)) (nI_toNat (by omega)) dX8_logTime_21 ?_
  refine J_topeq (m.1 68 ((lg - 1 - j) % 60)) (hM1.1 68 ((lg - 1 - j) % 60) rfl) ?_
  exact J_ireturn rfl (by first | rfl | assumption | simp [kb_nar]) dX8_logTime_22 (⟨rfl, _, _, rfl, hM1⟩) (by omega) (by omega)

set_option maxRecDepth 20000 in
set_option maxHeartbeats 1000000 in
theorem c_X8_logTime_x {cy : Nat → ClassId} {S : Nat → Nat → Nat} {I : kI} {L : kL} {R : kRf} {m : Mu} {cd : Int32} {x : Int32} (hM : MR m cd I L) {Ic : kI} {Lc : kL} {Rc : kRf} {LPc : List Nat} {rc : Nat → Nat} {ln qu : List Nat} {lg B : Nat} (hR : Rel m Ic Lc Rc LPc rc ln qu lg) (hI : Inv m B) (hB : B + 90000 < 2 ^ 30) (hlg : lg < 2 ^ 30) (hx : ∀ s, s < min lg 60 → x ≠ nI s) : Con yX8_logTime cX8_logTime 2 (some .int) 7 0 0 cy [.ref (ka S 30 0), .int x] (wm cy S I L R) (fun r w' => r = some (.int 0) ∧ MX cy S R m 1 w') kF := by
  have hn : mN m := ⟨hR.1.1, hR.2.1.1⟩
  have h10 := hI.1
  have h150 := hI.2.2.1
  have hg0 := inv_g hI (by omega)
  have hkk := hI.2.2.2.1
  have hh := hI.2.2.2.2.1
  refine Con_of (by decide +kernel) (Nat.le_of_ble_eq_true rfl) ?_
  refine J_eq (lv' := [(0, .ref (ka S 30 0)), (1, .int x)]) rfl rfl rfl ?_
  refine J_aload_n 0 rfl dX8_logTime_0 ?_
  refine J_iload_n 1 rfl dX8_logTime_1 ?_
  refine cv_8_219 (cells' := 0) (slots' := 0) dX8_logTime_2 (c_X8_isNoEntry_x hM hR hI hB hlg hx) n30 ⟨by decide, by decide⟩ rfl rfl (by decide) (by decide) (Nat.le_of_ble_eq_true rfl) (fun _ _ r2 => ?_) (fun _ _ h => h.elim)
  obtain ⟨rfl, I1, L1, rfl, hM1⟩ := r2
  refine J_eq (st' := [.int 1]) rfl rfl rfl ?_
  refine J_if_eq 12 (by decide) dX8_logTime_5 (fun c3 => ?_) (fun c3 => ?_)
  · exact absurd c3 (by decide)
  refine J_iconst (v := 0) (by decide) dX8_logTime_8 ?_
  refine J_goto 22 (by decide) dX8_logTime_9 ?_
  exact J_ireturn rfl (by first | rfl | assumption | simp [kb_nar]) dX8_logTime_22 (⟨rfl, _, _, rfl, hM1⟩) (by omega) (by omega)

set_option maxRecDepth 20000 in
set_option maxHeartbeats 1000000 in
theorem c_X8_logKind_s {cy : Nat → ClassId} {S : Nat → Nat → Nat} {I : kI} {L : kL} {R : kRf} {m : Mu} {cd : Int32} {j : Nat} (hM : MR m cd I L) {Ic : kI} {Lc : kL} {Rc : kRf} {LPc : List Nat} {rc : Nat → Nat} {ln qu : List Nat} {lg B : Nat} (hR : Rel m Ic Lc Rc LPc rc ln qu lg) (hI : Inv m B) (hB : B + 90000 < 2 ^ 30) (hlg : lg < 2 ^ 30) (hj : j < min lg 60) : Con yX8_logKind cX8_logKind 2 (some .char) 7 0 0 cy [.ref (ka S 30 0), .int (nI j)] (wm cy S I L R) (fun r w' => r = some (.int (m.1 69 ((lg - 1 - j) % 60))) ∧ MX cy S R m 0 w') kF := by
  have hn : mN m := ⟨hR.1.1, hR.2.1.1⟩
  have h10 := hI.1
  have h150 := hI.2.2.1
  have hg0 := inv_g hI (by omega)
  have hkk := hI.2.2.2.1
  have hh := hI.2.2.2.2.1
  have hsl : (lg - 1 - j) % 60 < 60 := Nat.mod_lt _ (by decide)
  have hnr := (hR.2.2.2.2.1.2.2.2.2 _ hsl).2.2.2
  refine Con_of (by decide +kernel) (Nat.le_of_ble_eq_true rfl) ?_
  refine J_eq (lv' := [(0, .ref (ka S 30 0)), (1, .int (nI j))]) rfl rfl rfl ?_
  refine J_aload_n 0 rfl dX8_logKind_0 ?_
  refine J_iload_n 1 rfl dX8_logKind_1 ?_
  refine cv_8_219 (cells' := 0) (slots' := 0) dX8_logKind_2 (c_X8_isNoEntry_s hM hR hI hB hlg hj) n30 ⟨by decide, by decide⟩ rfl rfl (by decide) (by decide) (Nat.le_of_ble_eq_true rfl) (fun _ _ r2 => ?_) (fun _ _ h => h.elim)
  obtain ⟨rfl, I1, L1, rfl, hM1⟩ := r2
  refine J_eq (st' := [.int 0]) rfl rfl rfl ?_
  refine J_if_eq 13 (by decide) dX8_logKind_5 (fun c3 => ?_) (fun c3 => ?_)
  rotate_left
  · exact absurd (by decide) c3
  refine J_aload_n 0 rfl dX8_logKind_13 ?_
  refine gf_8_72 n30 dX8_logKind_14 ?_
  refine J_aload_n 0 rfl dX8_logKind_17 ?_
  refine J_iload_n 1 rfl dX8_logKind_18 ?_
  refine cv_8_222 (cells' := 0) (slots' := 0) dX8_logKind_19 (c_X8_entry_s hM1 hR hI hB hlg hj) n30 ⟨by decide, by decide⟩ rfl rfl (by decide) (by decide) (Nat.le_of_ble_eq_true rfl) (fun _ _ r4 => ?_) (fun _ _ h => h.elim)
  obtain ⟨rfl, rfl⟩ := r4
  refine J_eq (st' := [.int (nI ((lg - 1 - j) % 60)), .ref (ka S 69 0)]) rfl rfl rfl ?_
  refine J_cald ((lg - 1 - j) % 60) 1 n69 rfl rfl (vp_in_nI (by omega) (by decide)) (nI_toNat (by omega)) dX8_logKind_22 ?_
  refine J_topeq (m.1 69 ((lg - 1 - j) % 60)) (hM1.1 69 ((lg - 1 - j) % 60) rfl) ?_
  exact J_ireturn rfl (by first | rfl | assumption | simp [kb_nar]) dX8_logKind_23 (⟨rfl, _, _, rfl, hM1⟩) (by omega) (by omega)

set_option maxRecDepth 20000 in
set_option maxHeartbeats 1000000 in
theorem c_X8_logKind_x {cy : Nat → ClassId} {S : Nat → Nat → Nat} {I : kI} {L : kL} {R : kRf} {m : Mu} {cd : Int32} {x : Int32} (hM : MR m cd I L) {Ic : kI} {Lc : kL} {Rc : kRf} {LPc : List Nat} {rc : Nat → Nat} {ln qu : List Nat} {lg B : Nat} (hR : Rel m Ic Lc Rc LPc rc ln qu lg) (hI : Inv m B) (hB : B + 90000 < 2 ^ 30) (hlg : lg < 2 ^ 30) (hx : ∀ s, s < min lg 60 → x ≠ nI s) : Con yX8_logKind cX8_logKind 2 (some .char) 7 0 0 cy [.ref (ka S 30 0), .int x] (wm cy S I L R) (fun r w' => r = some (.int 97) ∧ MX cy S R m 1 w') kF := by
  have hn : mN m := ⟨hR.1.1, hR.2.1.1⟩
  have h10 := hI.1
  have h150 := hI.2.2.1
  have hg0 := inv_g hI (by omega)
  have hkk := hI.2.2.2.1
  have hh := hI.2.2.2.2.1
  refine Con_of (by decide +kernel) (Nat.le_of_ble_eq_true rfl) ?_
  refine J_eq (lv' := [(0, .ref (ka S 30 0)), (1, .int x)]) rfl rfl rfl ?_
  refine J_aload_n 0 rfl dX8_logKind_0 ?_
  refine J_iload_n 1 rfl dX8_logKind_1 ?_
  refine cv_8_219 (cells' := 0) (slots' := 0) dX8_logKind_2 (c_X8_isNoEntry_x hM hR hI hB hlg hx) n30 ⟨by decide, by decide⟩ rfl rfl (by decide) (by decide) (Nat.le_of_ble_eq_true rfl) (fun _ _ r2 => ?_) (fun _ _ h => h.elim)
  obtain ⟨rfl, I1, L1, rfl, hM1⟩ := r2
  refine J_eq (st' := [.int 1]) rfl rfl rfl ?_
  refine J_if_eq 13 (by decide) dX8_logKind_5 (fun c3 => ?_) (fun c3 => ?_)
  · exact absurd c3 (by decide)
  refine J_bipush (v := 97) (by decide) dX8_logKind_8 ?_
  refine J_goto 23 (by decide) dX8_logKind_10 ?_
  exact J_ireturn rfl (by first | rfl | assumption | simp [kb_nar]) dX8_logKind_23 (⟨rfl, _, _, rfl, hM1⟩) (by omega) (by omega)

set_option maxRecDepth 20000 in
set_option maxHeartbeats 1000000 in
theorem c_X8_logNumber_s {cy : Nat → ClassId} {S : Nat → Nat → Nat} {I : kI} {L : kL} {R : kRf} {m : Mu} {cd : Int32} {j : Nat} (hM : MR m cd I L) {Ic : kI} {Lc : kL} {Rc : kRf} {LPc : List Nat} {rc : Nat → Nat} {ln qu : List Nat} {lg B : Nat} (hR : Rel m Ic Lc Rc LPc rc ln qu lg) (hI : Inv m B) (hB : B + 90000 < 2 ^ 30) (hlg : lg < 2 ^ 30) (hj : j < min lg 60) : Con yX8_logNumber cX8_logNumber 2 (some .int) 7 0 0 cy [.ref (ka S 30 0), .int (nI j)] (wm cy S I L R) (fun r w' => r = some (.int (m.1 70 ((lg - 1 - j) % 60))) ∧ MX cy S R m 0 w') kF := by
  have hn : mN m := ⟨hR.1.1, hR.2.1.1⟩
  have h10 := hI.1
  have h150 := hI.2.2.1
  have hg0 := inv_g hI (by omega)
  have hkk := hI.2.2.2.1
  have hh := hI.2.2.2.2.1
  have hsl : (lg - 1 - j) % 60 < 60 := Nat.mod_lt _ (by decide)
  have hnr := (hR.2.2.2.2.1.2.2.2.2 _ hsl).2.2.2
  refine Con_of (by decide +kernel) (Nat.le_of_ble_eq_true rfl) ?_
  refine J_eq (lv' := [(0, .ref (ka S 30 0)), (1, .int (nI j))]) rfl rfl rfl ?_
  refine J_aload_n 0 rfl dX8_logNumber_0 ?_
  refine J_iload_n 1 rfl dX8_logNumber_1 ?_
  refine cv_8_219 (cells' := 0) (slots' := 0) dX8_logNumber_2 (c_X8_isNoEntry_s hM hR hI hB hlg hj) n30 ⟨by decide, by decide⟩ rfl rfl (by decide) (by decide) (Nat.le_of_ble_eq_true rfl) (fun _ _ r2 => ?_) (fun _ _ h => h.elim)
  obtain ⟨rfl, I1, L1, rfl, hM1⟩ := r2
  refine J_eq (st' := [.int 0]) rfl rfl rfl ?_
  refine J_if_eq 12 (by decide) dX8_logNumber_5 (fun c3 => ?_) (fun c3 => ?_)
  rotate_left
  · exact absurd (by decide) c3
  refine J_aload_n 0 rfl dX8_logNumber_12 ?_
  refine gf_8_75 n30 dX8_logNumber_13 ?_
  refine J_aload_n 0 rfl dX8_logNumber_16 ?_
  refine J_iload_n 1 rfl dX8_logNumber_17 ?_
  refine cv_8_222 (cells' := 0) (slots' := 0) dX8_logNumber_18 (c_X8_entry_s hM1 hR hI hB hlg hj) n30 ⟨by decide, by decide⟩ rfl rfl (by decide) (by decide) (Nat.le_of_ble_eq_true rfl) (fun _ _ r4 => ?_) (fun _ _ h => h.elim)
  obtain ⟨rfl, rfl⟩ := r4
  refine J_eq (st' := [.int (nI ((lg - 1 - j) % 60)), .ref (ka S 70 0)]) rfl rfl rfl ?_
  refine J_iald ((lg - 1 - j) % 60) 0 n70 rfl rfl (vp_in_nI (by omega) (by decide)) (nI_toNat (by omega)) dX8_logNumber_21 ?_
  refine J_topeq (m.1 70 ((lg - 1 - j) % 60)) (hM1.1 70 ((lg - 1 - j) % 60) rfl) ?_
  exact J_ireturn rfl (by first | rfl | assumption | simp [kb_nar]) dX8_logNumber_22 (⟨rfl, _, _, rfl, hM1⟩) (by omega) (by omega)

set_option maxRecDepth 20000 in
set_option maxHeartbeats 1000000 in
theorem c_X8_logNumber_x {cy : Nat → ClassId} {S : Nat → Nat → Nat} {I : kI} {L : kL} {R : kRf} {m : Mu} {cd : Int32} {x : Int32} (hM : MR m cd I L) {Ic : kI} {Lc : kL} {Rc : kRf} {LPc : List Nat} {rc : Nat → Nat} {ln qu : List Nat} {lg B : Nat} (hR : Rel m Ic Lc Rc LPc rc ln qu lg) (hI : Inv m B) (hB : B + 90000 < 2 ^ 30) (hlg : lg < 2 ^ 30) (hx : ∀ s, s < min lg 60 → x ≠ nI s) : Con yX8_logNumber cX8_logNumber 2 (some .int) 7 0 0 cy [.ref (ka S 30 0), .int x] (wm cy S I L R) (fun r w' => r = some (.int 0) ∧ MX cy S R m 1 w') kF := by
  have hn : mN m := ⟨hR.1.1, hR.2.1.1⟩
  have h10 := hI.1
  have h150 := hI.2.2.1
  have hg0 := inv_g hI (by omega)
  have hkk := hI.2.2.2.1
  have hh := hI.2.2.2.2.1
  refine Con_of (by decide +kernel) (Nat.le_of_ble_eq_true rfl) ?_
  refine J_eq (lv' := [(0, .ref (ka S 30 0)), (1, .int x)]) rfl rfl rfl ?_
  refine J_aload_n 0 rfl dX8_logNumber_0 ?_
  refine J_iload_n 1 rfl dX8_logNumber_1 ?_
  refine cv_8_219 (cells' := 0) (slots' := 0) dX8_logNumber_2 (c_X8_isNoEntry_x hM hR hI hB hlg hx) n30 ⟨by decide, by decide⟩ rfl rfl (by decide) (by decide) (Nat.le_of_ble_eq_true rfl) (fun _ _ r2 => ?_) (fun _ _ h => h.elim)
  obtain ⟨rfl, I1, L1, rfl, hM1⟩ := r2
  refine J_eq (st' := [.int 1]) rfl rfl rfl ?_
  refine J_if_eq 12 (by decide) dX8_logNumber_5 (fun c3 => ?_) (fun c3 => ?_)
  · exact absurd c3 (by decide)
  refine J_iconst (v := 0) (by decide) dX8_logNumber_8 ?_
  refine J_goto 22 (by decide) dX8_logNumber_9 ?_
  exact J_ireturn rfl (by first | rfl | assumption | simp [kb_nar]) dX8_logNumber_22 (⟨rfl, _, _, rfl, hM1⟩) (by omega) (by omega)

