/-! more of the small ones -/

set_option maxRecDepth 20000 in
theorem c_X7_relaysOfSteps_s {cy : Nat → ClassId} {w : va_W} {k : Nat} (h1 : 1 ≤ k) (h2 : k < 1000) : Con yX7_relaysOfSteps cX7_relaysOfSteps 1 (some .int) 6 0 0 cy [.int (nI k)] w (kRet (some (.int (nI (k - 1)))) w) kF := by
  refine Con_of (by decide +kernel) (Nat.le_of_ble_eq_true rfl) ?_
  refine J_eq (lv' := [(0, .int (nI k))]) rfl rfl rfl ?_
  refine J_iload_n 0 rfl dX7_relaysOfSteps_0 ?_
  refine J_sipush (v := 1000) (by decide) dX7_relaysOfSteps_1 ?_
  refine J_icmp_lt 18 (by decide) dX7_relaysOfSteps_4 (fun c1 => ?_) (fun c1 => ?_)
  rotate_left
  · exfalso
    have Nc1 : ¬ (k < 1000) := fun q => c1 ((nI_ltI (a := k) (b := 1000) (by omega) (by omega)).mpr q)
    omega
  have Nc1 : k < 1000 := (nI_ltI (a := k) (b := 1000) (by omega) (by omega)).mp c1
  refine J_iload_n 0 rfl dX7_relaysOfSteps_18 ?_
  refine J_iconst (v := 1) (by decide) dX7_relaysOfSteps_19 ?_
  refine J_isub dX7_relaysOfSteps_20 ?_
  refine J_topeq (nI (k - 1)) (by exact nI_subL (a := k) (n := 1) (by omega)) ?_
  exact J_ireturn rfl (by first | rfl | assumption | simp [kb_nar]) dX7_relaysOfSteps_21 (⟨rfl, rfl⟩) (by omega) (by omega)

set_option maxRecDepth 20000 in
theorem c_X7_relaysOfSteps_x {cy : Nat → ClassId} {w : va_W} {k : Nat} (h1 : 1000 ≤ k) (h2 : k < 5000) : Con yX7_relaysOfSteps cX7_relaysOfSteps 1 (some .int) 6 1 6 cy [.int (nI k)] w kNo (kThr "java/util/NoSuchElementException" w) := by
  refine Con_of (by decide +kernel) (Nat.le_of_ble_eq_true rfl) ?_
  refine J_eq (lv' := [(0, .int (nI k))]) rfl rfl rfl ?_
  refine J_iload_n 0 rfl dX7_relaysOfSteps_0 ?_
  refine J_sipush (v := 1000) (by decide) dX7_relaysOfSteps_1 ?_
  refine J_icmp_lt 18 (by decide) dX7_relaysOfSteps_4 (fun c1 => ?_) (fun c1 => ?_)
  · exfalso
    have Nc1 : k < 1000 := (nI_ltI (a := k) (b := 1000) (by omega) (by omega)).mp c1
    omega
  have Nc1 : ¬ (k < 1000) := fun q => c1 ((nI_ltI (a := k) (b := 1000) (by omega) (by omega)).mpr q)
  exact J_throwXW (E := "java/util/NoSuchElementException") (Y0 := "java/lang/RuntimeException") (ix := 13) (rx := prog_22_method_4_code) (ns := ["java/lang/Exception"]) (text := "no way") (ik := 128) (is := 307) (ic := 132) rfl nse_code exc_NoSuchElementException (by decide +kernel) cl_7_128 ini_NoSuchElementException at_7_132 fitX_NoSuchElementException (⟨rfl, rfl⟩) (by decide) (Nat.le_of_ble_eq_true rfl) (by decide) (by decide) dX7_relaysOfSteps_7 dX7_relaysOfSteps_10 dX7_relaysOfSteps_11 dX7_relaysOfSteps_14 dX7_relaysOfSteps_17

theorem busy_n (R : kRf) : ∃ b, busyF R = nI b ∧ b ≤ 3 := by
  unfold busyF
  by_cases h0 : R 14 0 0 = none <;> by_cases h1 : R 14 0 1 = none <;> by_cases h2 : R 14 0 2 = none <;> simp only [h0, h1, h2, if_true, if_false] <;> first | exact ⟨0, by decide, by decide⟩ | exact ⟨1, by decide, by decide⟩ | exact ⟨2, by decide, by decide⟩ | exact ⟨3, by decide, by decide⟩

set_option maxRecDepth 20000 in
theorem c_X7_hasRoomForACall {cy : Nat → ClassId} {S : Nat → Nat → Nat} {I : kI} {L : kL} {R : kRf} {LP : List Nat} {n z : Nat} (hn : I 0 0 5 = nI n) (hn2 : n ≤ 150) (hz : I 2 0 2 = nI z) (hz2 : z ≤ 24) (hsp : inLP R 14 3 LP) : Con yX7_hasRoomForACall cX7_hasRoomForACall 1 (some .boolean) 1 0 0 cy [.ref (ka S 0 0)] (wc cy S I L R LP) (kRet (some (.int (kb (decide (n < 150) && decide (nI z + busyF R < 24))))) (wc cy S I L R LP)) kF := by
  refine Con_of (by decide +kernel) (Nat.le_of_ble_eq_true rfl) ?_
  refine J_eq (lv' := [(0, .ref (ka S 0 0))]) rfl rfl rfl ?_
  refine J_aload_n 0 rfl dX7_hasRoomForACall_0 ?_
  refine gf_7_147 (n0 _) dX7_hasRoomForACall_1 ?_
  refine J_topeq (nI n) hn ?_
  refine J_aload_n 0 rfl dX7_hasRoomForACall_4 ?_
  refine gf_7_39 (n0 _) dX7_hasRoomForACall_5 ?_
  refine J_alen (v := 150) 5 (n5 _) rfl rfl rfl dX7_hasRoomForACall_8 ?_
  refine J_icmp_ge 36 (by decide) dX7_hasRoomForACall_9 (fun c1 => ?_) (fun c1 => ?_)
  · have Nc1 : 150 ≤ n := (nI_leI (a := 150) (b := n) (by omega) (by omega)).mp c1
    refine J_iconst (v := 0) (by decide) dX7_hasRoomForACall_36 ?_
    exact J_ireturn rfl (by first | rfl | assumption | simp [kb_nar]) dX7_hasRoomForACall_37 (⟨by first | (rw [decide_eq_false (show ¬ n < 150 by omega)]; rfl) | skip; rw [hb, nI_add]; have q1 := nI_ltI (a := z + b) (b := 24) (by omega) (by decide); have q2 : (nI (z + b) < 24) = (z + b < 24) := propext q1; simp only [q2]; first | (rw [decide_eq_true (show n < 150 by omega)]; first | (rw [decide_eq_true (show z + b < 24 by omega)]; rfl) | (rw [decide_eq_false (show ¬ z + b < 24 by omega)]; rfl)) | (rw [decide_eq_false (show ¬ n < 150 by omega)]; rfl), rfl⟩) (by omega) (by omega)
  · have Nc1 : ¬ (150 ≤ n) := fun q => c1 ((nI_leI (a := 150) (b := n) (by omega) (by omega)).mpr q)
    refine J_aload_n 0 rfl dX7_hasRoomForACall_12 ?_
    refine gf_7_19 (n0 _) dX7_hasRoomForACall_13 ?_
    refine gf_7_213 (n2 _) dX7_hasRoomForACall_16 ?_
    refine J_topeq (nI z) hz ?_
    refine J_aload_n 0 rfl dX7_hasRoomForACall_19 ?_
    refine gf_7_26 (n0 _) dX7_hasRoomForACall_20 ?_
    refine cv_7_309 (cells' := 0) (slots' := 0) dX7_hasRoomForACall_23 (c_X0_busyCount hsp) (n3 _) ⟨by decide, by decide⟩ rfl rfl (by decide) (by decide) (Nat.le_of_ble_eq_true rfl) (fun _ _ r2 => ?_) (fun _ _ h => h.elim)
    obtain ⟨rfl, rfl⟩ := r2
    refine J_eq (st' := [.int (busyF R), .int (nI z)]) rfl rfl rfl ?_
    obtain ⟨b, hb, hb3⟩ := busy_n R
    refine J_topeq (nI b) hb ?_
    refine J_iadd dX7_hasRoomForACall_26 ?_
    refine J_topeq (nI (z + b)) (by exact nI_add z b) ?_
    refine J_bipush (v := 24) (by decide) dX7_hasRoomForACall_27 ?_
    refine J_icmp_ge 36 (by decide) dX7_hasRoomForACall_29 (fun c3 => ?_) (fun c3 => ?_)
    · have Nc3 : 24 ≤ (z + b) := (nI_leI (a := 24) (b := (z + b)) (by omega) (by omega)).mp c3
      refine J_iconst (v := 0) (by decide) dX7_hasRoomForACall_36 ?_
      exact J_ireturn rfl (by first | rfl | assumption | simp [kb_nar]) dX7_hasRoomForACall_37 (⟨by first | (rw [decide_eq_false (show ¬ n < 150 by omega)]; rfl) | skip; rw [hb, nI_add]; have q1 := nI_ltI (a := z + b) (b := 24) (by omega) (by decide); have q2 : (nI (z + b) < 24) = (z + b < 24) := propext q1; simp only [q2]; first | (rw [decide_eq_true (show n < 150 by omega)]; first | (rw [decide_eq_true (show z + b < 24 by omega)]; rfl) | (rw [decide_eq_false (show ¬ z + b < 24 by omega)]; rfl)) | (rw [decide_eq_false (show ¬ n < 150 by omega)]; rfl), rfl⟩) (by omega) (by omega)
    · have Nc3 : ¬ (24 ≤ (z + b)) := fun q => c3 ((nI_leI (a := 24) (b := (z + b)) (by omega) (by omega)).mpr q)
      refine J_iconst (v := 1) (by decide) dX7_hasRoomForACall_32 ?_
      refine J_goto 37 (by decide) dX7_hasRoomForACall_33 ?_
      exact J_ireturn rfl (by first | rfl | assumption | simp [kb_nar]) dX7_hasRoomForACall_37 (⟨by first | (rw [decide_eq_false (show ¬ n < 150 by omega)]; rfl) | skip; rw [hb, nI_add]; have q1 := nI_ltI (a := z + b) (b := 24) (by omega) (by decide); have q2 : (nI (z + b) < 24) = (z + b < 24) := propext q1; simp only [q2]; first | (rw [decide_eq_true (show n < 150 by omega)]; first | (rw [decide_eq_true (show z + b < 24 by omega)]; rfl) | (rw [decide_eq_false (show ¬ z + b < 24 by omega)]; rfl)) | (rw [decide_eq_false (show ¬ n < 150 by omega)]; rfl), rfl⟩) (by omega) (by omega)

set_option maxRecDepth 20000 in
theorem c_X5_setUrgency {cy : Nat → ClassId} {S : Nat → Nat → Nat} {I : kI} {L : kL} {R : kRf} {LP : List Nat} {a : Nat} {u : Int32} (ha : a ∈ LP) (hu : narrow .char (.int u) = .int u) (hu2 : fits .char (.int u) = true) : Con yX5_setUrgency cX5_setUrgency 2 none 1 0 0 cy [.ref a, .int u] (wc cy S I L R LP) (kRet none (wc cy S (ku (ku I 20 a 4 u) 20 a 5 (wghtF u)) L R LP)) kF := by
  refine Con_of (by decide +kernel) (Nat.le_of_ble_eq_true rfl) ?_
  refine J_eq (lv' := [(0, .ref a), (1, .int u)]) rfl rfl rfl ?_
  refine J_aload_n 0 rfl dX5_setUrgency_0 ?_
  refine J_iload_n 1 rfl dX5_setUrgency_1 ?_
  refine pf_5_34 (by first | assumption | decide | simp) (by first | assumption | decide | simp) (n20 (by assumption)) dX5_setUrgency_2 ?_
  refine J_aload_n 0 rfl dX5_setUrgency_5 ?_
  refine J_iload_n 1 rfl dX5_setUrgency_6 ?_
  refine J_callSN (y2 := yX7_weightOf) (As := [.int u]) [] [] dX5_setUrgency_7 (c_X7_weightOf (w := (wc cy S (ku I 20 a 4 u) L R LP))) (by simp) (by decide +kernel) kc_yX7_weightOf kini7 ks_yX7_weightOf kd_yX7_weightOf ⟨by decide, by decide⟩ (by decide) (by decide) (Nat.le_of_ble_eq_true rfl) (fun _ _ r1 => ?_)
  obtain ⟨rfl, rfl⟩ := r1
  refine J_eq (w' := (wc cy S (ku I 20 a 4 u) L R LP)) (st' := [.int (wghtF u), .ref a]) (by simp) rfl rfl ?_
  refine pf_5_41 (n20 (by assumption)) dX5_setUrgency_10 ?_
  exact J_return rfl dX5_setUrgency_13 (⟨rfl, rfl⟩) (by omega) (by omega)

set_option maxRecDepth 20000 in
theorem c_X0_free {cy : Nat → ClassId} {S : Nat → Nat → Nat} {I : kI} {L : kL} {R : kRf} {LP : List Nat} {a h : Nat} (ha : a ∈ LP) (hch : I 20 a 8 = nI h) (hh : h < 3) : Con yX0_free cX0_free 3 none 0 0 0 cy [.ref (ka S 3 0), .ref a] (wc cy S I L R LP) (kRet none (wc cy S (ku (ku I 20 a 8 (-1)) 20 a 9 0) L (ku R 14 0 h none) LP)) kF := by
  refine Con_of (by decide +kernel) (Nat.le_of_ble_eq_true rfl) ?_
  refine J_eq (lv' := [(0, .ref (ka S 3 0)), (1, .ref a)]) rfl rfl rfl ?_
  refine J_aload_n 1 rfl dX0_free_0 ?_
  refine gf_0_43 (n20 (by assumption)) dX0_free_1 ?_
  refine J_topeq (nI h) hch ?_
  refine J_istore_n (lv' := [(0, .ref (ka S 3 0)), (1, .ref a), (2, .int (nI h))]) (by decide) rfl dX0_free_4 ?_
  refine J_iload_n 2 rfl dX0_free_5 ?_
  refine J_if_lt 25 (by decide) dX0_free_6 (fun c1 => ?_) (fun c1 => ?_)
  · exfalso
    have Nc1 : h < 0 := (nI_ltI (a := h) (b := 0) (by omega) (by omega)).mp c1
    omega
  have Nc1 : ¬ (h < 0) := fun q => c1 ((nI_ltI (a := h) (b := 0) (by omega) (by omega)).mpr q)
  refine J_iload_n 2 rfl dX0_free_9 ?_
  refine J_aload_n 0 rfl dX0_free_10 ?_
  refine gf_0_11 (n3 _) dX0_free_11 ?_
  refine J_alen (v := 3) 5 (n14 _) rfl rfl rfl dX0_free_14 ?_
  refine J_icmp_ge 25 (by decide) dX0_free_15 (fun c2 => ?_) (fun c2 => ?_)
  · exfalso
    have Nc2 : 3 ≤ h := (nI_leI (a := 3) (b := h) (by omega) (by omega)).mp c2
    omega
  have Nc2 : ¬ (3 ≤ h) := fun q => c2 ((nI_leI (a := 3) (b := h) (by omega) (by omega)).mpr q)
  refine J_aload_n 0 rfl dX0_free_18 ?_
  refine gf_0_11 (n3 _) dX0_free_19 ?_
  refine J_iload_n 2 rfl dX0_free_22 ?_
  refine J_null dX0_free_23 ?_
  refine J_aastN (I' := I) (L' := L) (R' := ku R 14 0 h none) h 5 (n14 _) rfl rfl (vp_in_nI (by omega) (by decide)) (nI_toNat (by omega)) (by rw [ku_own]; rfl) (fun k' i' h => ⟨rfl, rfl, ku_row _ _ h⟩) dX0_free_24 ?_
  refine J_aload_n 1 rfl dX0_free_25 ?_
  refine J_iconst (v := (-1)) (by decide) dX0_free_26 ?_
  refine pf_0_43 (n20 (by assumption)) dX0_free_27 ?_
  refine J_aload_n 1 rfl dX0_free_30 ?_
  refine J_iconst (v := 0) (by decide) dX0_free_31 ?_
  refine pf_0_46 (n20 (by assumption)) dX0_free_32 ?_
  exact J_return rfl dX0_free_35 (⟨rfl, rfl⟩) (by omega) (by omega)

set_option maxRecDepth 20000 in
theorem c_X0_give {cy : Nat → ClassId} {S : Nat → Nat → Nat} {I : kI} {L : kL} {R : kRf} {LP : List Nat} {a h : Nat} (ha : a ∈ LP) (hh : h < 3) : Con yX0_give cX0_give 3 none 0 0 0 cy [.ref (ka S 3 0), .int (nI h), .ref a] (wc cy S I L R LP) (kRet none (wc cy S (ku I 20 a 8 (nI h)) L (ku R 14 0 h (some a)) LP)) kF := by
  refine Con_of (by decide +kernel) (Nat.le_of_ble_eq_true rfl) ?_
  refine J_eq (lv' := [(0, .ref (ka S 3 0)), (1, .int (nI h)), (2, .ref a)]) rfl rfl rfl ?_
  refine J_iload_n 1 rfl dX0_give_0 ?_
  refine J_if_lt 25 (by decide) dX0_give_1 (fun c1 => ?_) (fun c1 => ?_)
  · exfalso
    have Nc1 : h < 0 := (nI_ltI (a := h) (b := 0) (by omega) (by omega)).mp c1
    omega
  have Nc1 : ¬ (h < 0) := fun q => c1 ((nI_ltI (a := h) (b := 0) (by omega) (by omega)).mpr q)
  refine J_iload_n 1 rfl dX0_give_4 ?_
  refine J_aload_n 0 rfl dX0_give_5 ?_
  refine gf_0_11 (n3 _) dX0_give_6 ?_
  refine J_alen (v := 3) 5 (n14 _) rfl rfl rfl dX0_give_9 ?_
  refine J_icmp_ge 25 (by decide) dX0_give_10 (fun c2 => ?_) (fun c2 => ?_)
  · exfalso
    have Nc2 : 3 ≤ h := (nI_leI (a := 3) (b := h) (by omega) (by omega)).mp c2
    omega
  have Nc2 : ¬ (3 ≤ h) := fun q => c2 ((nI_leI (a := 3) (b := h) (by omega) (by omega)).mpr q)
  refine J_aload_n 0 rfl dX0_give_13 ?_
  refine gf_0_11 (n3 _) dX0_give_14 ?_
  refine J_iload_n 1 rfl dX0_give_17 ?_
  refine J_aload_n 2 rfl dX0_give_18 ?_
  refine J_aastR (R' := ku R 14 0 h (some a)) h 5 (n14 _) rfl rfl (n20 (by assumption)) (vp_in_nI (by omega) (by decide)) (nI_toNat (by omega)) (by rw [ku_own]; rfl) (fun k' i' h => ⟨rfl, rfl, ku_row _ _ h⟩) dX0_give_19 ?_
  refine J_aload_n 2 rfl dX0_give_20 ?_
  refine J_iload_n 1 rfl dX0_give_21 ?_
  refine pf_0_43 (n20 (by assumption)) dX0_give_22 ?_
  exact J_return rfl dX0_give_25 (⟨rfl, rfl⟩) (by omega) (by omega)

set_option maxRecDepth 20000 in
theorem c_X0_countMinute {cy : Nat → ClassId} {S : Nat → Nat → Nat} {I : kI} {L : kL} {R : kRf} {LP : List Nat} {h : Nat} (hh : h < 3) : Con yX0_countMinute cX0_countMinute 2 none 0 0 0 cy [.ref (ka S 3 0), .int (nI h)] (wc cy S I L R LP) (kRet none (wc cy S (ku I 15 0 h (I 15 0 h + 1)) L R LP)) kF := by
  refine Con_of (by decide +kernel) (Nat.le_of_ble_eq_true rfl) ?_
  refine J_eq (lv' := [(0, .ref (ka S 3 0)), (1, .int (nI h))]) rfl rfl rfl ?_
  refine J_iload_n 1 rfl dX0_countMinute_0 ?_
  refine J_if_lt 23 (by decide) dX0_countMinute_1 (fun c1 => ?_) (fun c1 => ?_)
  · exfalso
    have Nc1 : h < 0 := (nI_ltI (a := h) (b := 0) (by omega) (by omega)).mp c1
    omega
  have Nc1 : ¬ (h < 0) := fun q => c1 ((nI_ltI (a := h) (b := 0) (by omega) (by omega)).mpr q)
  refine J_iload_n 1 rfl dX0_countMinute_4 ?_
  refine J_aload_n 0 rfl dX0_countMinute_5 ?_
  refine gf_0_17 (n3 _) dX0_countMinute_6 ?_
  refine J_alen (v := 3) 0 (n15 _) rfl rfl rfl dX0_countMinute_9 ?_
  refine J_icmp_ge 23 (by decide) dX0_countMinute_10 (fun c2 => ?_) (fun c2 => ?_)
  · exfalso
    have Nc2 : 3 ≤ h := (nI_leI (a := 3) (b := h) (by omega) (by omega)).mp c2
    omega
  have Nc2 : ¬ (3 ≤ h) := fun q => c2 ((nI_leI (a := 3) (b := h) (by omega) (by omega)).mpr q)
  refine J_aload_n 0 rfl dX0_countMinute_13 ?_
  refine gf_0_17 (n3 _) dX0_countMinute_14 ?_
  refine J_iload_n 1 rfl dX0_countMinute_17 ?_
  refine J_dup2 rfl rfl dX0_countMinute_18 ?_
  refine J_iald h 0 (n15 _) rfl rfl (vp_in_nI (by omega) (by decide)) (nI_toNat (by omega)) dX0_countMinute_19 ?_
  refine J_iconst (v := 1) (by decide) dX0_countMinute_20 ?_
  refine J_iadd dX0_countMinute_21 ?_
  refine J_iast (I' := ku I 15 0 h ((I 15 0 h) + 1)) (L' := L) (R' := R) h 0 (n15 _) rfl rfl (vp_in_nI (by omega) (by decide)) (nI_toNat (by omega)) (by rw [ku_own]; rfl) (fun k' i' h => ⟨ku_row _ _ h, rfl, rfl⟩) dX0_countMinute_22 ?_
  exact J_return rfl dX0_countMinute_23 (⟨rfl, rfl⟩) (by omega) (by omega)

set_option maxRecDepth 20000 in
theorem c_X0_minutesSpoken {cy : Nat → ClassId} {S : Nat → Nat → Nat} {I : kI} {L : kL} {R : kRf} {LP : List Nat} {h : Nat} (hh : h < 3) : Con yX0_minutesSpoken cX0_minutesSpoken 2 (some .int) 0 0 0 cy [.ref (ka S 3 0), .int (nI h)] (wc cy S I L R LP) (kRet (some (.int (I 15 0 h))) (wc cy S I L R LP)) kF := by
  refine Con_of (by decide +kernel) (Nat.le_of_ble_eq_true rfl) ?_
  refine J_eq (lv' := [(0, .ref (ka S 3 0)), (1, .int (nI h))]) rfl rfl rfl ?_
  refine J_iload_n 1 rfl dX0_minutesSpoken_0 ?_
  refine J_if_lt 22 (by decide) dX0_minutesSpoken_1 (fun c1 => ?_) (fun c1 => ?_)
  · exfalso
    have Nc1 : h < 0 := (nI_ltI (a := h) (b := 0) (by omega) (by omega)).mp c1
    omega
  have Nc1 : ¬ (h < 0) := fun q => c1 ((nI_ltI (a := h) (b := 0) (by omega) (by omega)).mpr q)
  refine J_iload_n 1 rfl dX0_minutesSpoken_4 ?_
  refine J_aload_n 0 rfl dX0_minutesSpoken_5 ?_
  refine gf_0_17 (n3 _) dX0_minutesSpoken_6 ?_
  refine J_alen (v := 3) 0 (n15 _) rfl rfl rfl dX0_minutesSpoken_9 ?_
  refine J_icmp_ge 22 (by decide) dX0_minutesSpoken_10 (fun c2 => ?_) (fun c2 => ?_)
  · exfalso
    have Nc2 : 3 ≤ h := (nI_leI (a := 3) (b := h) (by omega) (by omega)).mp c2
    omega
  have Nc2 : ¬ (3 ≤ h) := fun q => c2 ((nI_leI (a := 3) (b := h) (by omega) (by omega)).mpr q)
  refine J_aload_n 0 rfl dX0_minutesSpoken_13 ?_
  refine gf_0_17 (n3 _) dX0_minutesSpoken_14 ?_
  refine J_iload_n 1 rfl dX0_minutesSpoken_17 ?_
  refine J_iald h 0 (n15 _) rfl rfl (vp_in_nI (by omega) (by decide)) (nI_toNat (by omega)) dX0_minutesSpoken_18 ?_
  refine J_goto 23 (by decide) dX0_minutesSpoken_19 ?_
  exact J_ireturn rfl (by first | rfl | assumption | simp [kb_nar]) dX0_minutesSpoken_23 (⟨rfl, rfl⟩) (by omega) (by omega)

def alwF (I : kI) (R : kRf) : Bool := match R 14 0 0 with
  | none => true
  | some a => mayF I a 0
def wyF (I : kI) (r : Option Nat) : Int32 := match r with
  | none => 0
  | some a => I 20 a 9
theorem wyF_n {I : kI} : wyF I none = 0 := rfl
theorem wyF_s {I : kI} {a : Nat} : wyF I (some a) = I 20 a 9 := rfl
def noShF (I : kI) (R : kRf) : Bool := !shF I 0 (R 14 0 0) && (!shF I (0 ||| wyF I (R 14 0 0)) (R 14 0 1) && !shF I ((0 ||| wyF I (R 14 0 0)) ||| wyF I (R 14 0 1)) (R 14 0 2))
theorem or0 (x : Int32) : x ||| 0 = x := by simp

set_option maxRecDepth 20000 in
theorem c_X0_areAllAllowed {cy : Nat → ClassId} {S : Nat → Nat → Nat} {I : kI} {L : kL} {R : kRf} {LP : List Nat}  (hsp : inLP R 14 3 LP)  : Con yX0_areAllAllowed cX0_areAllAllowed 2 (some .boolean) 1 0 0 cy [.ref (ka S 3 0)] (wc cy S I L R LP) (kRet (some (.int (kb (alwF I R)))) (wc cy S I L R LP)) kF := by
  refine Con_of (by decide +kernel) (Nat.le_of_ble_eq_true rfl) ?_
  refine J_eq (lv' := [(0, .ref (ka S 3 0))]) rfl rfl rfl ?_
  refine J_iconst (v := 0) (by decide) dX0_areAllAllowed_0 ?_
  refine J_istore_n (lv' := [(0, .ref (ka S 3 0)), (1, .int 0)]) (by decide) rfl dX0_areAllAllowed_1 ?_
  refine J_iload_n 1 rfl dX0_areAllAllowed_2 ?_
  refine J_aload_n 0 rfl dX0_areAllAllowed_3 ?_
  refine gf_0_11 (n3 _) dX0_areAllAllowed_4 ?_
  refine J_alen (v := 3) 5 (n14 _) rfl rfl rfl dX0_areAllAllowed_7 ?_
  refine J_icmp_ge 41 (by decide) dX0_areAllAllowed_8 (fun c1 => ?_) (fun c1 => ?_)
  · exact absurd c1 (by decide)
  refine J_aload_n 0 rfl dX0_areAllAllowed_11 ?_
  refine gf_0_11 (n3 _) dX0_areAllAllowed_12 ?_
  refine J_iload_n 1 rfl dX0_areAllAllowed_15 ?_
  refine J_aald 0 5 (n14 _) rfl rfl (vp_in_iff.mpr (by decide)) (by decide) dX0_areAllAllowed_16 ?_
  rcases opt_split (R 14 0 0) with o2 | ⟨a3, o2⟩
  · skip
    refine J_topv (v' := .null) (by first | rfl | (rw [o2]; rfl)) ?_
    refine J_ifnullN 35 (by decide) dX0_areAllAllowed_17 ?_
    refine J_iinc (v := 1) (lv' := [(0, .ref (ka S 3 0)), (1, .int 1)]) 1 rfl (by decide) (by decide) rfl dX0_areAllAllowed_35 ?_
    refine J_goto 2 (by decide) dX0_areAllAllowed_38 ?_
    refine J_iload_n 1 rfl dX0_areAllAllowed_2 ?_
    refine J_aload_n 0 rfl dX0_areAllAllowed_3 ?_
    refine gf_0_11 (n3 _) dX0_areAllAllowed_4 ?_
    refine J_alen (v := 3) 5 (n14 _) rfl rfl rfl dX0_areAllAllowed_7 ?_
    refine J_icmp_ge 41 (by decide) dX0_areAllAllowed_8 (fun c5 => ?_) (fun c5 => ?_)
    · exact absurd c5 (by decide)
    refine J_aload_n 0 rfl dX0_areAllAllowed_11 ?_
    refine gf_0_11 (n3 _) dX0_areAllAllowed_12 ?_
    refine J_iload_n 1 rfl dX0_areAllAllowed_15 ?_
    refine J_aald 1 5 (n14 _) rfl rfl (vp_in_iff.mpr (by decide)) (by decide) dX0_areAllAllowed_16 ?_
    rcases opt_split (R 14 0 1) with o6 | ⟨a7, o6⟩
    · skip
      refine J_topv (v' := .null) (by first | rfl | (rw [o6]; rfl)) ?_
      refine J_ifnullN 35 (by decide) dX0_areAllAllowed_17 ?_
      refine J_iinc (v := 2) (lv' := [(0, .ref (ka S 3 0)), (1, .int 2)]) 1 rfl (by decide) (by decide) rfl dX0_areAllAllowed_35 ?_
      refine J_goto 2 (by decide) dX0_areAllAllowed_38 ?_
      refine J_iload_n 1 rfl dX0_areAllAllowed_2 ?_
      refine J_aload_n 0 rfl dX0_areAllAllowed_3 ?_
      refine gf_0_11 (n3 _) dX0_areAllAllowed_4 ?_
      refine J_alen (v := 3) 5 (n14 _) rfl rfl rfl dX0_areAllAllowed_7 ?_
      refine J_icmp_ge 41 (by decide) dX0_areAllAllowed_8 (fun c9 => ?_) (fun c9 => ?_)
      · exact absurd c9 (by decide)
      refine J_aload_n 0 rfl dX0_areAllAllowed_11 ?_
      refine gf_0_11 (n3 _) dX0_areAllAllowed_12 ?_
      refine J_iload_n 1 rfl dX0_areAllAllowed_15 ?_
      refine J_aald 2 5 (n14 _) rfl rfl (vp_in_iff.mpr (by decide)) (by decide) dX0_areAllAllowed_16 ?_
      rcases opt_split (R 14 0 2) with o10 | ⟨a11, o10⟩
      · skip
        refine J_topv (v' := .null) (by first | rfl | (rw [o10]; rfl)) ?_
        refine J_ifnullN 35 (by decide) dX0_areAllAllowed_17 ?_
        refine J_iinc (v := 3) (lv' := [(0, .ref (ka S 3 0)), (1, .int 3)]) 1 rfl (by decide) (by decide) rfl dX0_areAllAllowed_35 ?_
        refine J_goto 2 (by decide) dX0_areAllAllowed_38 ?_
        refine J_iload_n 1 rfl dX0_areAllAllowed_2 ?_
        refine J_aload_n 0 rfl dX0_areAllAllowed_3 ?_
        refine gf_0_11 (n3 _) dX0_areAllAllowed_4 ?_
        refine J_alen (v := 3) 5 (n14 _) rfl rfl rfl dX0_areAllAllowed_7 ?_
        refine J_icmp_ge 41 (by decide) dX0_areAllAllowed_8 (fun c13 => ?_) (fun c13 => ?_)
        rotate_left
        · exact absurd (by decide) c13
        refine J_iconst (v := 1) (by decide) dX0_areAllAllowed_41 ?_
        exact J_ireturn rfl (by first | rfl | assumption | simp [kb_nar]) dX0_areAllAllowed_42 (⟨by (try simp only [kb_0, kb_1, kb_n0, kb_n1, decide_eq_false_iff_not, decide_eq_true_eq, ne_eq, Classical.not_not] at *); first | (simp [kb, kb_0, kb_1, vr_n, vr_s, alwF, *]; done) | (simp [kb, kb_0, kb_1, vr_n, vr_s, alwF, *] <;> grind), rfl⟩) (by omega) (by omega)
      · skip
        have ma11 : a11 ∈ LP := hsp _ _ (by decide) o10
        refine J_topv (v' := .ref a11) (by first | rfl | (rw [o10]; rfl)) ?_
        refine J_ifnull dX0_areAllAllowed_17 ?_
        refine J_aload_n 0 rfl dX0_areAllAllowed_20 ?_
        refine gf_0_11 (n3 _) dX0_areAllAllowed_21 ?_
        refine J_iload_n 1 rfl dX0_areAllAllowed_24 ?_
        refine J_aald 2 5 (n14 _) rfl rfl (vp_in_iff.mpr (by decide)) (by decide) dX0_areAllAllowed_25 ?_
        refine J_topv (v' := .ref a11) (by first | rfl | (rw [o10]; rfl)) ?_
        refine J_iload_n 1 rfl dX0_areAllAllowed_26 ?_
        refine cv_0_29 (cells' := 0) (slots' := 0) dX0_areAllAllowed_27 (c_X5_mayHave (by assumption)) (n20 (by assumption)) ⟨by decide, by decide⟩ rfl rfl (by decide) (by decide) (Nat.le_of_ble_eq_true rfl) (fun _ _ r14 => ?_) (fun _ _ h => h.elim)
        obtain ⟨rfl, rfl⟩ := r14
        refine J_eq (st' := [.int (kb (mayF I a11 2))]) rfl rfl rfl ?_
        refine J_topv (v' := .int 1) (by first | rfl | (rw [may_2]; rfl)) ?_
        refine J_if_ne 35 (by decide) dX0_areAllAllowed_30 (fun c15 => ?_) (fun c15 => ?_)
        rotate_left
        · exact absurd c15 (by decide)
        refine J_iinc (v := 3) (lv' := [(0, .ref (ka S 3 0)), (1, .int 3)]) 1 rfl (by decide) (by decide) rfl dX0_areAllAllowed_35 ?_
        refine J_goto 2 (by decide) dX0_areAllAllowed_38 ?_
        refine J_iload_n 1 rfl dX0_areAllAllowed_2 ?_
        refine J_aload_n 0 rfl dX0_areAllAllowed_3 ?_
        refine gf_0_11 (n3 _) dX0_areAllAllowed_4 ?_
        refine J_alen (v := 3) 5 (n14 _) rfl rfl rfl dX0_areAllAllowed_7 ?_
        refine J_icmp_ge 41 (by decide) dX0_areAllAllowed_8 (fun c17 => ?_) (fun c17 => ?_)
        rotate_left
        · exact absurd (by decide) c17
        refine J_iconst (v := 1) (by decide) dX0_areAllAllowed_41 ?_
        exact J_ireturn rfl (by first | rfl | assumption | simp [kb_nar]) dX0_areAllAllowed_42 (⟨by (try simp only [kb_0, kb_1, kb_n0, kb_n1, decide_eq_false_iff_not, decide_eq_true_eq, ne_eq, Classical.not_not] at *); first | (simp [kb, kb_0, kb_1, vr_n, vr_s, alwF, *]; done) | (simp [kb, kb_0, kb_1, vr_n, vr_s, alwF, *] <;> grind), rfl⟩) (by omega) (by omega)
    · skip
      have ma7 : a7 ∈ LP := hsp _ _ (by decide) o6
      refine J_topv (v' := .ref a7) (by first | rfl | (rw [o6]; rfl)) ?_
      refine J_ifnull dX0_areAllAllowed_17 ?_
      refine J_aload_n 0 rfl dX0_areAllAllowed_20 ?_
      refine gf_0_11 (n3 _) dX0_areAllAllowed_21 ?_
      refine J_iload_n 1 rfl dX0_areAllAllowed_24 ?_
      refine J_aald 1 5 (n14 _) rfl rfl (vp_in_iff.mpr (by decide)) (by decide) dX0_areAllAllowed_25 ?_
      refine J_topv (v' := .ref a7) (by first | rfl | (rw [o6]; rfl)) ?_
      refine J_iload_n 1 rfl dX0_areAllAllowed_26 ?_
      refine cv_0_29 (cells' := 0) (slots' := 0) dX0_areAllAllowed_27 (c_X5_mayHave (by assumption)) (n20 (by assumption)) ⟨by decide, by decide⟩ rfl rfl (by decide) (by decide) (Nat.le_of_ble_eq_true rfl) (fun _ _ r18 => ?_) (fun _ _ h => h.elim)
      obtain ⟨rfl, rfl⟩ := r18
      refine J_eq (st' := [.int (kb (mayF I a7 1))]) rfl rfl rfl ?_
      refine J_topv (v' := .int 1) (by first | rfl | (rw [may_1]; rfl)) ?_
      refine J_if_ne 35 (by decide) dX0_areAllAllowed_30 (fun c19 => ?_) (fun c19 => ?_)
      rotate_left
      · exact absurd c19 (by decide)
      refine J_iinc (v := 2) (lv' := [(0, .ref (ka S 3 0)), (1, .int 2)]) 1 rfl (by decide) (by decide) rfl dX0_areAllAllowed_35 ?_
      refine J_goto 2 (by decide) dX0_areAllAllowed_38 ?_
      refine J_iload_n 1 rfl dX0_areAllAllowed_2 ?_
      refine J_aload_n 0 rfl dX0_areAllAllowed_3 ?_
      refine gf_0_11 (n3 _) dX0_areAllAllowed_4 ?_
      refine J_alen (v := 3) 5 (n14 _) rfl rfl rfl dX0_areAllAllowed_7 ?_
      refine J_icmp_ge 41 (by decide) dX0_areAllAllowed_8 (fun c21 => ?_) (fun c21 => ?_)
      · exact absurd c21 (by decide)
      refine J_aload_n 0 rfl dX0_areAllAllowed_11 ?_
      refine gf_0_11 (n3 _) dX0_areAllAllowed_12 ?_
      refine J_iload_n 1 rfl dX0_areAllAllowed_15 ?_
      refine J_aald 2 5 (n14 _) rfl rfl (vp_in_iff.mpr (by decide)) (by decide) dX0_areAllAllowed_16 ?_
      rcases opt_split (R 14 0 2) with o22 | ⟨a23, o22⟩
      · skip
        refine J_topv (v' := .null) (by first | rfl | (rw [o22]; rfl)) ?_
        refine J_ifnullN 35 (by decide) dX0_areAllAllowed_17 ?_
        refine J_iinc (v := 3) (lv' := [(0, .ref (ka S 3 0)), (1, .int 3)]) 1 rfl (by decide) (by decide) rfl dX0_areAllAllowed_35 ?_
        refine J_goto 2 (by decide) dX0_areAllAllowed_38 ?_
        refine J_iload_n 1 rfl dX0_areAllAllowed_2 ?_
        refine J_aload_n 0 rfl dX0_areAllAllowed_3 ?_
        refine gf_0_11 (n3 _) dX0_areAllAllowed_4 ?_
        refine J_alen (v := 3) 5 (n14 _) rfl rfl rfl dX0_areAllAllowed_7 ?_
        refine J_icmp_ge 41 (by decide) dX0_areAllAllowed_8 (fun c25 => ?_) (fun c25 => ?_)
        rotate_left
        · exact absurd (by decide) c25
        refine J_iconst (v := 1) (by decide) dX0_areAllAllowed_41 ?_
        exact J_ireturn rfl (by first | rfl | assumption | simp [kb_nar]) dX0_areAllAllowed_42 (⟨by (try simp only [kb_0, kb_1, kb_n0, kb_n1, decide_eq_false_iff_not, decide_eq_true_eq, ne_eq, Classical.not_not] at *); first | (simp [kb, kb_0, kb_1, vr_n, vr_s, alwF, *]; done) | (simp [kb, kb_0, kb_1, vr_n, vr_s, alwF, *] <;> grind), rfl⟩) (by omega) (by omega)
      · skip
        have ma23 : a23 ∈ LP := hsp _ _ (by decide) o22
        refine J_topv (v' := .ref a23) (by first | rfl | (rw [o22]; rfl)) ?_
        refine J_ifnull dX0_areAllAllowed_17 ?_
        refine J_aload_n 0 rfl dX0_areAllAllowed_20 ?_
        refine gf_0_11 (n3 _) dX0_areAllAllowed_21 ?_
        refine J_iload_n 1 rfl dX0_areAllAllowed_24 ?_
        refine J_aald 2 5 (n14 _) rfl rfl (vp_in_iff.mpr (by decide)) (by decide) dX0_areAllAllowed_25 ?_
        refine J_topv (v' := .ref a23) (by first | rfl | (rw [o22]; rfl)) ?_
        refine J_iload_n 1 rfl dX0_areAllAllowed_26 ?_
        refine cv_0_29 (cells' := 0) (slots' := 0) dX0_areAllAllowed_27 (c_X5_mayHave (by assumption)) (n20 (by assumption)) ⟨by decide, by decide⟩ rfl rfl (by decide) (by decide) (Nat.le_of_ble_eq_true rfl) (fun _ _ r26 => ?_) (fun _ _ h => h.elim)
        obtain ⟨rfl, rfl⟩ := r26
        refine J_eq (st' := [.int (kb (mayF I a23 2))]) rfl rfl rfl ?_
        refine J_topv (v' := .int 1) (by first | rfl | (rw [may_2]; rfl)) ?_
        refine J_if_ne 35 (by decide) dX0_areAllAllowed_30 (fun c27 => ?_) (fun c27 => ?_)
        rotate_left
        · exact absurd c27 (by decide)
        refine J_iinc (v := 3) (lv' := [(0, .ref (ka S 3 0)), (1, .int 3)]) 1 rfl (by decide) (by decide) rfl dX0_areAllAllowed_35 ?_
        refine J_goto 2 (by decide) dX0_areAllAllowed_38 ?_
        refine J_iload_n 1 rfl dX0_areAllAllowed_2 ?_
        refine J_aload_n 0 rfl dX0_areAllAllowed_3 ?_
        refine gf_0_11 (n3 _) dX0_areAllAllowed_4 ?_
        refine J_alen (v := 3) 5 (n14 _) rfl rfl rfl dX0_areAllAllowed_7 ?_
        refine J_icmp_ge 41 (by decide) dX0_areAllAllowed_8 (fun c29 => ?_) (fun c29 => ?_)
        rotate_left
        · exact absurd (by decide) c29
        refine J_iconst (v := 1) (by decide) dX0_areAllAllowed_41 ?_
        exact J_ireturn rfl (by first | rfl | assumption | simp [kb_nar]) dX0_areAllAllowed_42 (⟨by (try simp only [kb_0, kb_1, kb_n0, kb_n1, decide_eq_false_iff_not, decide_eq_true_eq, ne_eq, Classical.not_not] at *); first | (simp [kb, kb_0, kb_1, vr_n, vr_s, alwF, *]; done) | (simp [kb, kb_0, kb_1, vr_n, vr_s, alwF, *] <;> grind), rfl⟩) (by omega) (by omega)
  · skip
    have ma3 : a3 ∈ LP := hsp _ _ (by decide) o2
    refine J_topv (v' := .ref a3) (by first | rfl | (rw [o2]; rfl)) ?_
    refine J_ifnull dX0_areAllAllowed_17 ?_
    refine J_aload_n 0 rfl dX0_areAllAllowed_20 ?_
    refine gf_0_11 (n3 _) dX0_areAllAllowed_21 ?_
    refine J_iload_n 1 rfl dX0_areAllAllowed_24 ?_
    refine J_aald 0 5 (n14 _) rfl rfl (vp_in_iff.mpr (by decide)) (by decide) dX0_areAllAllowed_25 ?_
    refine J_topv (v' := .ref a3) (by first | rfl | (rw [o2]; rfl)) ?_
    refine J_iload_n 1 rfl dX0_areAllAllowed_26 ?_
    refine cv_0_29 (cells' := 0) (slots' := 0) dX0_areAllAllowed_27 (c_X5_mayHave (by assumption)) (n20 (by assumption)) ⟨by decide, by decide⟩ rfl rfl (by decide) (by decide) (Nat.le_of_ble_eq_true rfl) (fun _ _ r30 => ?_) (fun _ _ h => h.elim)
    obtain ⟨rfl, rfl⟩ := r30
    refine J_eq (st' := [.int (kb (mayF I a3 0))]) rfl rfl rfl ?_
    refine J_if_ne 35 (by decide) dX0_areAllAllowed_30 (fun c31 => ?_) (fun c31 => ?_)
    · skip
      refine J_iinc (v := 1) (lv' := [(0, .ref (ka S 3 0)), (1, .int 1)]) 1 rfl (by decide) (by decide) rfl dX0_areAllAllowed_35 ?_
      refine J_goto 2 (by decide) dX0_areAllAllowed_38 ?_
      refine J_iload_n 1 rfl dX0_areAllAllowed_2 ?_
      refine J_aload_n 0 rfl dX0_areAllAllowed_3 ?_
      refine gf_0_11 (n3 _) dX0_areAllAllowed_4 ?_
      refine J_alen (v := 3) 5 (n14 _) rfl rfl rfl dX0_areAllAllowed_7 ?_
      refine J_icmp_ge 41 (by decide) dX0_areAllAllowed_8 (fun c33 => ?_) (fun c33 => ?_)
      · exact absurd c33 (by decide)
      refine J_aload_n 0 rfl dX0_areAllAllowed_11 ?_
      refine gf_0_11 (n3 _) dX0_areAllAllowed_12 ?_
      refine J_iload_n 1 rfl dX0_areAllAllowed_15 ?_
      refine J_aald 1 5 (n14 _) rfl rfl (vp_in_iff.mpr (by decide)) (by decide) dX0_areAllAllowed_16 ?_
      rcases opt_split (R 14 0 1) with o34 | ⟨a35, o34⟩
      · skip
        refine J_topv (v' := .null) (by first | rfl | (rw [o34]; rfl)) ?_
        refine J_ifnullN 35 (by decide) dX0_areAllAllowed_17 ?_
        refine J_iinc (v := 2) (lv' := [(0, .ref (ka S 3 0)), (1, .int 2)]) 1 rfl (by decide) (by decide) rfl dX0_areAllAllowed_35 ?_
        refine J_goto 2 (by decide) dX0_areAllAllowed_38 ?_
        refine J_iload_n 1 rfl dX0_areAllAllowed_2 ?_
        refine J_aload_n 0 rfl dX0_areAllAllowed_3 ?_
        refine gf_0_11 (n3 _) dX0_areAllAllowed_4 ?_
        refine J_alen (v := 3) 5 (n14 _) rfl rfl rfl dX0_areAllAllowed_7 ?_
        refine J_icmp_ge 41 (by decide) dX0_areAllAllowed_8 (fun c37 => ?_) (fun c37 => ?_)
        · exact absurd c37 (by decide)
        refine J_aload_n 0 rfl dX0_areAllAllowed_11 ?_
        refine gf_0_11 (n3 _) dX0_areAllAllowed_12 ?_
        refine J_iload_n 1 rfl dX0_areAllAllowed_15 ?_
        refine J_aald 2 5 (n14 _) rfl rfl (vp_in_iff.mpr (by decide)) (by decide) dX0_areAllAllowed_16 ?_
        rcases opt_split (R 14 0 2) with o38 | ⟨a39, o38⟩
        · skip
          refine J_topv (v' := .null) (by first | rfl | (rw [o38]; rfl)) ?_
          refine J_ifnullN 35 (by decide) dX0_areAllAllowed_17 ?_
          refine J_iinc (v := 3) (lv' := [(0, .ref (ka S 3 0)), (1, .int 3)]) 1 rfl (by decide) (by decide) rfl dX0_areAllAllowed_35 ?_
          refine J_goto 2 (by decide) dX0_areAllAllowed_38 ?_
          refine J_iload_n 1 rfl dX0_areAllAllowed_2 ?_
          refine J_aload_n 0 rfl dX0_areAllAllowed_3 ?_
          refine gf_0_11 (n3 _) dX0_areAllAllowed_4 ?_
          refine J_alen (v := 3) 5 (n14 _) rfl rfl rfl dX0_areAllAllowed_7 ?_
          refine J_icmp_ge 41 (by decide) dX0_areAllAllowed_8 (fun c41 => ?_) (fun c41 => ?_)
          rotate_left
          · exact absurd (by decide) c41
          refine J_iconst (v := 1) (by decide) dX0_areAllAllowed_41 ?_
          exact J_ireturn rfl (by first | rfl | assumption | simp [kb_nar]) dX0_areAllAllowed_42 (⟨by (try simp only [kb_0, kb_1, kb_n0, kb_n1, decide_eq_false_iff_not, decide_eq_true_eq, ne_eq, Classical.not_not] at *); first | (simp [kb, kb_0, kb_1, vr_n, vr_s, alwF, *]; done) | (simp [kb, kb_0, kb_1, vr_n, vr_s, alwF, *] <;> grind), rfl⟩) (by omega) (by omega)
        · skip
          have ma39 : a39 ∈ LP := hsp _ _ (by decide) o38
          refine J_topv (v' := .ref a39) (by first | rfl | (rw [o38]; rfl)) ?_
          refine J_ifnull dX0_areAllAllowed_17 ?_
          refine J_aload_n 0 rfl dX0_areAllAllowed_20 ?_
          refine gf_0_11 (n3 _) dX0_areAllAllowed_21 ?_
          refine J_iload_n 1 rfl dX0_areAllAllowed_24 ?_
          refine J_aald 2 5 (n14 _) rfl rfl (vp_in_iff.mpr (by decide)) (by decide) dX0_areAllAllowed_25 ?_
          refine J_topv (v' := .ref a39) (by first | rfl | (rw [o38]; rfl)) ?_
          refine J_iload_n 1 rfl dX0_areAllAllowed_26 ?_
          refine cv_0_29 (cells' := 0) (slots' := 0) dX0_areAllAllowed_27 (c_X5_mayHave (by assumption)) (n20 (by assumption)) ⟨by decide, by decide⟩ rfl rfl (by decide) (by decide) (Nat.le_of_ble_eq_true rfl) (fun _ _ r42 => ?_) (fun _ _ h => h.elim)
          obtain ⟨rfl, rfl⟩ := r42
          refine J_eq (st' := [.int (kb (mayF I a39 2))]) rfl rfl rfl ?_
          refine J_topv (v' := .int 1) (by first | rfl | (rw [may_2]; rfl)) ?_
          refine J_if_ne 35 (by decide) dX0_areAllAllowed_30 (fun c43 => ?_) (fun c43 => ?_)
          rotate_left
          · exact absurd c43 (by decide)
          refine J_iinc (v := 3) (lv' := [(0, .ref (ka S 3 0)), (1, .int 3)]) 1 rfl (by decide) (by decide) rfl dX0_areAllAllowed_35 ?_
          refine J_goto 2 (by decide) dX0_areAllAllowed_38 ?_
          refine J_iload_n 1 rfl dX0_areAllAllowed_2 ?_
          refine J_aload_n 0 rfl dX0_areAllAllowed_3 ?_
          refine gf_0_11 (n3 _) dX0_areAllAllowed_4 ?_
          refine J_alen (v := 3) 5 (n14 _) rfl rfl rfl dX0_areAllAllowed_7 ?_
          refine J_icmp_ge 41 (by decide) dX0_areAllAllowed_8 (fun c45 => ?_) (fun c45 => ?_)
          rotate_left
          · exact absurd (by decide) c45
          refine J_iconst (v := 1) (by decide) dX0_areAllAllowed_41 ?_
          exact J_ireturn rfl (by first | rfl | assumption | simp [kb_nar]) dX0_areAllAllowed_42 (⟨by (try simp only [kb_0, kb_1, kb_n0, kb_n1, decide_eq_false_iff_not, decide_eq_true_eq, ne_eq, Classical.not_not] at *); first | (simp [kb, kb_0, kb_1, vr_n, vr_s, alwF, *]; done) | (simp [kb, kb_0, kb_1, vr_n, vr_s, alwF, *] <;> grind), rfl⟩) (by omega) (by omega)
      · skip
        have ma35 : a35 ∈ LP := hsp _ _ (by decide) o34
        refine J_topv (v' := .ref a35) (by first | rfl | (rw [o34]; rfl)) ?_
        refine J_ifnull dX0_areAllAllowed_17 ?_
        refine J_aload_n 0 rfl dX0_areAllAllowed_20 ?_
        refine gf_0_11 (n3 _) dX0_areAllAllowed_21 ?_
        refine J_iload_n 1 rfl dX0_areAllAllowed_24 ?_
        refine J_aald 1 5 (n14 _) rfl rfl (vp_in_iff.mpr (by decide)) (by decide) dX0_areAllAllowed_25 ?_
        refine J_topv (v' := .ref a35) (by first | rfl | (rw [o34]; rfl)) ?_
        refine J_iload_n 1 rfl dX0_areAllAllowed_26 ?_
        refine cv_0_29 (cells' := 0) (slots' := 0) dX0_areAllAllowed_27 (c_X5_mayHave (by assumption)) (n20 (by assumption)) ⟨by decide, by decide⟩ rfl rfl (by decide) (by decide) (Nat.le_of_ble_eq_true rfl) (fun _ _ r46 => ?_) (fun _ _ h => h.elim)
        obtain ⟨rfl, rfl⟩ := r46
        refine J_eq (st' := [.int (kb (mayF I a35 1))]) rfl rfl rfl ?_
        refine J_topv (v' := .int 1) (by first | rfl | (rw [may_1]; rfl)) ?_
        refine J_if_ne 35 (by decide) dX0_areAllAllowed_30 (fun c47 => ?_) (fun c47 => ?_)
        rotate_left
        · exact absurd c47 (by decide)
        refine J_iinc (v := 2) (lv' := [(0, .ref (ka S 3 0)), (1, .int 2)]) 1 rfl (by decide) (by decide) rfl dX0_areAllAllowed_35 ?_
        refine J_goto 2 (by decide) dX0_areAllAllowed_38 ?_
        refine J_iload_n 1 rfl dX0_areAllAllowed_2 ?_
        refine J_aload_n 0 rfl dX0_areAllAllowed_3 ?_
        refine gf_0_11 (n3 _) dX0_areAllAllowed_4 ?_
        refine J_alen (v := 3) 5 (n14 _) rfl rfl rfl dX0_areAllAllowed_7 ?_
        refine J_icmp_ge 41 (by decide) dX0_areAllAllowed_8 (fun c49 => ?_) (fun c49 => ?_)
        · exact absurd c49 (by decide)
        refine J_aload_n 0 rfl dX0_areAllAllowed_11 ?_
        refine gf_0_11 (n3 _) dX0_areAllAllowed_12 ?_
        refine J_iload_n 1 rfl dX0_areAllAllowed_15 ?_
        refine J_aald 2 5 (n14 _) rfl rfl (vp_in_iff.mpr (by decide)) (by decide) dX0_areAllAllowed_16 ?_
        rcases opt_split (R 14 0 2) with o50 | ⟨a51, o50⟩
        · skip
          refine J_topv (v' := .null) (by first | rfl | (rw [o50]; rfl)) ?_
          refine J_ifnullN 35 (by decide) dX0_areAllAllowed_17 ?_
          refine J_iinc (v := 3) (lv' := [(0, .ref (ka S 3 0)), (1, .int 3)]) 1 rfl (by decide) (by decide) rfl dX0_areAllAllowed_35 ?_
          refine J_goto 2 (by decide) dX0_areAllAllowed_38 ?_
          refine J_iload_n 1 rfl dX0_areAllAllowed_2 ?_
          refine J_aload_n 0 rfl dX0_areAllAllowed_3 ?_
          refine gf_0_11 (n3 _) dX0_areAllAllowed_4 ?_
          refine J_alen (v := 3) 5 (n14 _) rfl rfl rfl dX0_areAllAllowed_7 ?_
          refine J_icmp_ge 41 (by decide) dX0_areAllAllowed_8 (fun c53 => ?_) (fun c53 => ?_)
          rotate_left
          · exact absurd (by decide) c53
          refine J_iconst (v := 1) (by decide) dX0_areAllAllowed_41 ?_
          exact J_ireturn rfl (by first | rfl | assumption | simp [kb_nar]) dX0_areAllAllowed_42 (⟨by (try simp only [kb_0, kb_1, kb_n0, kb_n1, decide_eq_false_iff_not, decide_eq_true_eq, ne_eq, Classical.not_not] at *); first | (simp [kb, kb_0, kb_1, vr_n, vr_s, alwF, *]; done) | (simp [kb, kb_0, kb_1, vr_n, vr_s, alwF, *] <;> grind), rfl⟩) (by omega) (by omega)
        · skip
          have ma51 : a51 ∈ LP := hsp _ _ (by decide) o50
          refine J_topv (v' := .ref a51) (by first | rfl | (rw [o50]; rfl)) ?_
          refine J_ifnull dX0_areAllAllowed_17 ?_
          refine J_aload_n 0 rfl dX0_areAllAllowed_20 ?_
          refine gf_0_11 (n3 _) dX0_areAllAllowed_21 ?_
          refine J_iload_n 1 rfl dX0_areAllAllowed_24 ?_
          refine J_aald 2 5 (n14 _) rfl rfl (vp_in_iff.mpr (by decide)) (by decide) dX0_areAllAllowed_25 ?_
          refine J_topv (v' := .ref a51) (by first | rfl | (rw [o50]; rfl)) ?_
          refine J_iload_n 1 rfl dX0_areAllAllowed_26 ?_
          refine cv_0_29 (cells' := 0) (slots' := 0) dX0_areAllAllowed_27 (c_X5_mayHave (by assumption)) (n20 (by assumption)) ⟨by decide, by decide⟩ rfl rfl (by decide) (by decide) (Nat.le_of_ble_eq_true rfl) (fun _ _ r54 => ?_) (fun _ _ h => h.elim)
          obtain ⟨rfl, rfl⟩ := r54
          refine J_eq (st' := [.int (kb (mayF I a51 2))]) rfl rfl rfl ?_
          refine J_topv (v' := .int 1) (by first | rfl | (rw [may_2]; rfl)) ?_
          refine J_if_ne 35 (by decide) dX0_areAllAllowed_30 (fun c55 => ?_) (fun c55 => ?_)
          rotate_left
          · exact absurd c55 (by decide)
          refine J_iinc (v := 3) (lv' := [(0, .ref (ka S 3 0)), (1, .int 3)]) 1 rfl (by decide) (by decide) rfl dX0_areAllAllowed_35 ?_
          refine J_goto 2 (by decide) dX0_areAllAllowed_38 ?_
          refine J_iload_n 1 rfl dX0_areAllAllowed_2 ?_
          refine J_aload_n 0 rfl dX0_areAllAllowed_3 ?_
          refine gf_0_11 (n3 _) dX0_areAllAllowed_4 ?_
          refine J_alen (v := 3) 5 (n14 _) rfl rfl rfl dX0_areAllAllowed_7 ?_
          refine J_icmp_ge 41 (by decide) dX0_areAllAllowed_8 (fun c57 => ?_) (fun c57 => ?_)
          rotate_left
          · exact absurd (by decide) c57
          refine J_iconst (v := 1) (by decide) dX0_areAllAllowed_41 ?_
          exact J_ireturn rfl (by first | rfl | assumption | simp [kb_nar]) dX0_areAllAllowed_42 (⟨by (try simp only [kb_0, kb_1, kb_n0, kb_n1, decide_eq_false_iff_not, decide_eq_true_eq, ne_eq, Classical.not_not] at *); first | (simp [kb, kb_0, kb_1, vr_n, vr_s, alwF, *]; done) | (simp [kb, kb_0, kb_1, vr_n, vr_s, alwF, *] <;> grind), rfl⟩) (by omega) (by omega)
    · skip
      refine J_iconst (v := 0) (by decide) dX0_areAllAllowed_33 ?_
      exact J_ireturn rfl (by first | rfl | assumption | simp [kb_nar]) dX0_areAllAllowed_34 (⟨by (try simp only [kb_0, kb_1, kb_n0, kb_n1, decide_eq_false_iff_not, decide_eq_true_eq, ne_eq, Classical.not_not] at *); first | (simp [kb, kb_0, kb_1, vr_n, vr_s, alwF, *]; done) | (simp [kb, kb_0, kb_1, vr_n, vr_s, alwF, *] <;> grind), rfl⟩) (by omega) (by omega)

set_option maxRecDepth 20000 in
theorem c_X0_shareNoStation {cy : Nat → ClassId} {S : Nat → Nat → Nat} {I : kI} {L : kL} {R : kRf} {LP : List Nat}  (hsp : inLP R 14 3 LP)  : Con yX0_shareNoStation cX0_shareNoStation 4 (some .boolean) 1 0 0 cy [.ref (ka S 3 0)] (wc cy S I L R LP) (kRet (some (.int (kb (noShF I R)))) (wc cy S I L R LP)) kF := by
  refine Con_of (by decide +kernel) (Nat.le_of_ble_eq_true rfl) ?_
  refine J_eq (lv' := [(0, .ref (ka S 3 0))]) rfl rfl rfl ?_
  refine J_iconst (v := 0) (by decide) dX0_shareNoStation_0 ?_
  refine J_istore_n (lv' := [(0, .ref (ka S 3 0)), (1, .int 0)]) (by decide) rfl dX0_shareNoStation_1 ?_
  refine J_iconst (v := 0) (by decide) dX0_shareNoStation_2 ?_
  refine J_istore_n (lv' := [(0, .ref (ka S 3 0)), (1, .int 0), (2, .int 0)]) (by decide) rfl dX0_shareNoStation_3 ?_
  refine J_iload_n 2 rfl dX0_shareNoStation_4 ?_
  refine J_aload_n 0 rfl dX0_shareNoStation_5 ?_
  refine gf_0_11 (n3 _) dX0_shareNoStation_6 ?_
  refine J_alen (v := 3) 5 (n14 _) rfl rfl rfl dX0_shareNoStation_9 ?_
  refine J_icmp_ge 47 (by decide) dX0_shareNoStation_10 (fun c1 => ?_) (fun c1 => ?_)
  · exact absurd c1 (by decide)
  refine J_aload_n 0 rfl dX0_shareNoStation_13 ?_
  refine gf_0_11 (n3 _) dX0_shareNoStation_14 ?_
  refine J_iload_n 2 rfl dX0_shareNoStation_17 ?_
  refine J_aald 0 5 (n14 _) rfl rfl (vp_in_iff.mpr (by decide)) (by decide) dX0_shareNoStation_18 ?_
  rcases opt_split (R 14 0 0) with o2 | ⟨a3, o2⟩
  · skip
    refine J_topv (v' := .null) (by first | rfl | (rw [o2]; rfl)) ?_
    refine J_astore_nN (lv' := [(0, .ref (ka S 3 0)), (1, .int 0), (2, .int 0), (3, .null)]) (by decide) rfl dX0_shareNoStation_19 ?_
    refine J_aload_nN 3 rfl dX0_shareNoStation_20 ?_
    refine J_ifnullN 41 (by decide) dX0_shareNoStation_21 ?_
    refine J_iinc (v := 1) (lv' := [(0, .ref (ka S 3 0)), (1, .int 0), (2, .int 1), (3, .null)]) 2 rfl (by decide) (by decide) rfl dX0_shareNoStation_41 ?_
    refine J_goto 4 (by decide) dX0_shareNoStation_44 ?_
    refine J_iload_n 2 rfl dX0_shareNoStation_4 ?_
    refine J_aload_n 0 rfl dX0_shareNoStation_5 ?_
    refine gf_0_11 (n3 _) dX0_shareNoStation_6 ?_
    refine J_alen (v := 3) 5 (n14 _) rfl rfl rfl dX0_shareNoStation_9 ?_
    refine J_icmp_ge 47 (by decide) dX0_shareNoStation_10 (fun c5 => ?_) (fun c5 => ?_)
    · exact absurd c5 (by decide)
    refine J_aload_n 0 rfl dX0_shareNoStation_13 ?_
    refine gf_0_11 (n3 _) dX0_shareNoStation_14 ?_
    refine J_iload_n 2 rfl dX0_shareNoStation_17 ?_
    refine J_aald 1 5 (n14 _) rfl rfl (vp_in_iff.mpr (by decide)) (by decide) dX0_shareNoStation_18 ?_
    rcases opt_split (R 14 0 1) with o6 | ⟨a7, o6⟩
    · skip
      refine J_topv (v' := .null) (by first | rfl | (rw [o6]; rfl)) ?_
      refine J_astore_nN (lv' := [(0, .ref (ka S 3 0)), (1, .int 0), (2, .int 1), (3, .null)]) (by decide) rfl dX0_shareNoStation_19 ?_
      refine J_aload_nN 3 rfl dX0_shareNoStation_20 ?_
      refine J_ifnullN 41 (by decide) dX0_shareNoStation_21 ?_
      refine J_iinc (v := 2) (lv' := [(0, .ref (ka S 3 0)), (1, .int 0), (2, .int 2), (3, .null)]) 2 rfl (by decide) (by decide) rfl dX0_shareNoStation_41 ?_
      refine J_goto 4 (by decide) dX0_shareNoStation_44 ?_
      refine J_iload_n 2 rfl dX0_shareNoStation_4 ?_
      refine J_aload_n 0 rfl dX0_shareNoStation_5 ?_
      refine gf_0_11 (n3 _) dX0_shareNoStation_6 ?_
      refine J_alen (v := 3) 5 (n14 _) rfl rfl rfl dX0_shareNoStation_9 ?_
      refine J_icmp_ge 47 (by decide) dX0_shareNoStation_10 (fun c9 => ?_) (fun c9 => ?_)
      · exact absurd c9 (by decide)
      refine J_aload_n 0 rfl dX0_shareNoStation_13 ?_
      refine gf_0_11 (n3 _) dX0_shareNoStation_14 ?_
      refine J_iload_n 2 rfl dX0_shareNoStation_17 ?_
      refine J_aald 2 5 (n14 _) rfl rfl (vp_in_iff.mpr (by decide)) (by decide) dX0_shareNoStation_18 ?_
      rcases opt_split (R 14 0 2) with o10 | ⟨a11, o10⟩
      · skip
        refine J_topv (v' := .null) (by first | rfl | (rw [o10]; rfl)) ?_
        refine J_astore_nN (lv' := [(0, .ref (ka S 3 0)), (1, .int 0), (2, .int 2), (3, .null)]) (by decide) rfl dX0_shareNoStation_19 ?_
        refine J_aload_nN 3 rfl dX0_shareNoStation_20 ?_
        refine J_ifnullN 41 (by decide) dX0_shareNoStation_21 ?_
        refine J_iinc (v := 3) (lv' := [(0, .ref (ka S 3 0)), (1, .int 0), (2, .int 3), (3, .null)]) 2 rfl (by decide) (by decide) rfl dX0_shareNoStation_41 ?_
        refine J_goto 4 (by decide) dX0_shareNoStation_44 ?_
        refine J_iload_n 2 rfl dX0_shareNoStation_4 ?_
        refine J_aload_n 0 rfl dX0_shareNoStation_5 ?_
        refine gf_0_11 (n3 _) dX0_shareNoStation_6 ?_
        refine J_alen (v := 3) 5 (n14 _) rfl rfl rfl dX0_shareNoStation_9 ?_
        refine J_icmp_ge 47 (by decide) dX0_shareNoStation_10 (fun c13 => ?_) (fun c13 => ?_)
        rotate_left
        · exact absurd (by decide) c13
        refine J_iconst (v := 1) (by decide) dX0_shareNoStation_47 ?_
        exact J_ireturn rfl (by first | rfl | assumption | simp [kb_nar]) dX0_shareNoStation_48 (⟨by (try simp only [kb_0, kb_1, kb_n0, kb_n1, decide_eq_false_iff_not, decide_eq_true_eq, ne_eq, Classical.not_not] at *); first | (simp [kb, kb_0, kb_1, vr_n, vr_s, noShF, shF_none, shF_some, wyF_n, wyF_s, or0, *]; done) | (simp [kb, kb_0, kb_1, vr_n, vr_s, noShF, shF_none, shF_some, wyF_n, wyF_s, or0, *] <;> grind), rfl⟩) (by omega) (by omega)
      · skip
        have ma11 : a11 ∈ LP := hsp _ _ (by decide) o10
        refine J_topv (v' := .ref a11) (by first | rfl | (rw [o10]; rfl)) ?_
        refine J_astore_n (lv' := [(0, .ref (ka S 3 0)), (1, .int 0), (2, .int 2), (3, .ref a11)]) (by decide) rfl dX0_shareNoStation_19 ?_
        refine J_aload_n 3 rfl dX0_shareNoStation_20 ?_
        refine J_ifnull dX0_shareNoStation_21 ?_
        refine J_aload_n 3 rfl dX0_shareNoStation_24 ?_
        refine J_iload_n 1 rfl dX0_shareNoStation_25 ?_
        refine cv_0_21 (cells' := 0) (slots' := 0) dX0_shareNoStation_26 (c_X5_sharesStationWith (by assumption)) (n20 (by assumption)) ⟨by decide, by decide⟩ rfl rfl (by decide) (by decide) (Nat.le_of_ble_eq_true rfl) (fun _ _ r14 => ?_) (fun _ _ h => h.elim)
        obtain ⟨rfl, rfl⟩ := r14
        refine J_eq (st' := [.int (kb (shrF I a11 0))]) rfl rfl rfl ?_
        refine J_if_eq 34 (by decide) dX0_shareNoStation_29 (fun c15 => ?_) (fun c15 => ?_)
        · skip
          refine J_iload_n 1 rfl dX0_shareNoStation_34 ?_
          refine J_aload_n 3 rfl dX0_shareNoStation_35 ?_
          refine gf_0_46 (n20 (by assumption)) dX0_shareNoStation_36 ?_
          refine J_ior dX0_shareNoStation_39 ?_
          refine J_istore_n (lv' := [(0, .ref (ka S 3 0)), (1, .int (0 ||| (I 20 a11 9))), (2, .int 2), (3, .ref a11)]) (by decide) rfl dX0_shareNoStation_40 ?_
          refine J_iinc (v := 3) (lv' := [(0, .ref (ka S 3 0)), (1, .int (0 ||| (I 20 a11 9))), (2, .int 3), (3, .ref a11)]) 2 rfl (by decide) (by decide) rfl dX0_shareNoStation_41 ?_
          refine J_goto 4 (by decide) dX0_shareNoStation_44 ?_
          refine J_iload_n 2 rfl dX0_shareNoStation_4 ?_
          refine J_aload_n 0 rfl dX0_shareNoStation_5 ?_
          refine gf_0_11 (n3 _) dX0_shareNoStation_6 ?_
          refine J_alen (v := 3) 5 (n14 _) rfl rfl rfl dX0_shareNoStation_9 ?_
          refine J_icmp_ge 47 (by decide) dX0_shareNoStation_10 (fun c17 => ?_) (fun c17 => ?_)
          rotate_left
          · exact absurd (by decide) c17
          refine J_iconst (v := 1) (by decide) dX0_shareNoStation_47 ?_
          exact J_ireturn rfl (by first | rfl | assumption | simp [kb_nar]) dX0_shareNoStation_48 (⟨by (try simp only [kb_0, kb_1, kb_n0, kb_n1, decide_eq_false_iff_not, decide_eq_true_eq, ne_eq, Classical.not_not] at *); first | (simp [kb, kb_0, kb_1, vr_n, vr_s, noShF, shF_none, shF_some, wyF_n, wyF_s, or0, *]; done) | (simp [kb, kb_0, kb_1, vr_n, vr_s, noShF, shF_none, shF_some, wyF_n, wyF_s, or0, *] <;> grind), rfl⟩) (by omega) (by omega)
        · skip
          refine J_iconst (v := 0) (by decide) dX0_shareNoStation_32 ?_
          exact J_ireturn rfl (by first | rfl | assumption | simp [kb_nar]) dX0_shareNoStation_33 (⟨by (try simp only [kb_0, kb_1, kb_n0, kb_n1, decide_eq_false_iff_not, decide_eq_true_eq, ne_eq, Classical.not_not] at *); first | (simp [kb, kb_0, kb_1, vr_n, vr_s, noShF, shF_none, shF_some, wyF_n, wyF_s, or0, *]; done) | (simp [kb, kb_0, kb_1, vr_n, vr_s, noShF, shF_none, shF_some, wyF_n, wyF_s, or0, *] <;> grind), rfl⟩) (by omega) (by omega)
    · skip
      have ma7 : a7 ∈ LP := hsp _ _ (by decide) o6
      refine J_topv (v' := .ref a7) (by first | rfl | (rw [o6]; rfl)) ?_
      refine J_astore_n (lv' := [(0, .ref (ka S 3 0)), (1, .int 0), (2, .int 1), (3, .ref a7)]) (by decide) rfl dX0_shareNoStation_19 ?_
      refine J_aload_n 3 rfl dX0_shareNoStation_20 ?_
      refine J_ifnull dX0_shareNoStation_21 ?_
      refine J_aload_n 3 rfl dX0_shareNoStation_24 ?_
      refine J_iload_n 1 rfl dX0_shareNoStation_25 ?_
      refine cv_0_21 (cells' := 0) (slots' := 0) dX0_shareNoStation_26 (c_X5_sharesStationWith (by assumption)) (n20 (by assumption)) ⟨by decide, by decide⟩ rfl rfl (by decide) (by decide) (Nat.le_of_ble_eq_true rfl) (fun _ _ r18 => ?_) (fun _ _ h => h.elim)
      obtain ⟨rfl, rfl⟩ := r18
      refine J_eq (st' := [.int (kb (shrF I a7 0))]) rfl rfl rfl ?_
      refine J_if_eq 34 (by decide) dX0_shareNoStation_29 (fun c19 => ?_) (fun c19 => ?_)
      · skip
        refine J_iload_n 1 rfl dX0_shareNoStation_34 ?_
        refine J_aload_n 3 rfl dX0_shareNoStation_35 ?_
        refine gf_0_46 (n20 (by assumption)) dX0_shareNoStation_36 ?_
        refine J_ior dX0_shareNoStation_39 ?_
        refine J_istore_n (lv' := [(0, .ref (ka S 3 0)), (1, .int (0 ||| (I 20 a7 9))), (2, .int 1), (3, .ref a7)]) (by decide) rfl dX0_shareNoStation_40 ?_
        refine J_iinc (v := 2) (lv' := [(0, .ref (ka S 3 0)), (1, .int (0 ||| (I 20 a7 9))), (2, .int 2), (3, .ref a7)]) 2 rfl (by decide) (by decide) rfl dX0_shareNoStation_41 ?_
        refine J_goto 4 (by decide) dX0_shareNoStation_44 ?_
        refine J_iload_n 2 rfl dX0_shareNoStation_4 ?_
        refine J_aload_n 0 rfl dX0_shareNoStation_5 ?_
        refine gf_0_11 (n3 _) dX0_shareNoStation_6 ?_
        refine J_alen (v := 3) 5 (n14 _) rfl rfl rfl dX0_shareNoStation_9 ?_
        refine J_icmp_ge 47 (by decide) dX0_shareNoStation_10 (fun c21 => ?_) (fun c21 => ?_)
        · exact absurd c21 (by decide)
        refine J_aload_n 0 rfl dX0_shareNoStation_13 ?_
        refine gf_0_11 (n3 _) dX0_shareNoStation_14 ?_
        refine J_iload_n 2 rfl dX0_shareNoStation_17 ?_
        refine J_aald 2 5 (n14 _) rfl rfl (vp_in_iff.mpr (by decide)) (by decide) dX0_shareNoStation_18 ?_
        rcases opt_split (R 14 0 2) with o22 | ⟨a23, o22⟩
        · skip
          refine J_topv (v' := .null) (by first | rfl | (rw [o22]; rfl)) ?_
          refine J_astore_nN (lv' := [(0, .ref (ka S 3 0)), (1, .int (0 ||| (I 20 a7 9))), (2, .int 2), (3, .null)]) (by decide) rfl dX0_shareNoStation_19 ?_
          refine J_aload_nN 3 rfl dX0_shareNoStation_20 ?_
          refine J_ifnullN 41 (by decide) dX0_shareNoStation_21 ?_
          refine J_iinc (v := 3) (lv' := [(0, .ref (ka S 3 0)), (1, .int (0 ||| (I 20 a7 9))), (2, .int 3), (3, .null)]) 2 rfl (by decide) (by decide) rfl dX0_shareNoStation_41 ?_
          refine J_goto 4 (by decide) dX0_shareNoStation_44 ?_
          refine J_iload_n 2 rfl dX0_shareNoStation_4 ?_
          refine J_aload_n 0 rfl dX0_shareNoStation_5 ?_
          refine gf_0_11 (n3 _) dX0_shareNoStation_6 ?_
          refine J_alen (v := 3) 5 (n14 _) rfl rfl rfl dX0_shareNoStation_9 ?_
          refine J_icmp_ge 47 (by decide) dX0_shareNoStation_10 (fun c25 => ?_) (fun c25 => ?_)
          rotate_left
          · exact absurd (by decide) c25
          refine J_iconst (v := 1) (by decide) dX0_shareNoStation_47 ?_
          exact J_ireturn rfl (by first | rfl | assumption | simp [kb_nar]) dX0_shareNoStation_48 (⟨by (try simp only [kb_0, kb_1, kb_n0, kb_n1, decide_eq_false_iff_not, decide_eq_true_eq, ne_eq, Classical.not_not] at *); first | (simp [kb, kb_0, kb_1, vr_n, vr_s, noShF, shF_none, shF_some, wyF_n, wyF_s, or0, *]; done) | (simp [kb, kb_0, kb_1, vr_n, vr_s, noShF, shF_none, shF_some, wyF_n, wyF_s, or0, *] <;> grind), rfl⟩) (by omega) (by omega)
        · skip
          have ma23 : a23 ∈ LP := hsp _ _ (by decide) o22
          refine J_topv (v' := .ref a23) (by first | rfl | (rw [o22]; rfl)) ?_
          refine J_astore_n (lv' := [(0, .ref (ka S 3 0)), (1, .int (0 ||| (I 20 a7 9))), (2, .int 2), (3, .ref a23)]) (by decide) rfl dX0_shareNoStation_19 ?_
          refine J_aload_n 3 rfl dX0_shareNoStation_20 ?_
          refine J_ifnull dX0_shareNoStation_21 ?_
          refine J_aload_n 3 rfl dX0_shareNoStation_24 ?_
          refine J_iload_n 1 rfl dX0_shareNoStation_25 ?_
          refine cv_0_21 (cells' := 0) (slots' := 0) dX0_shareNoStation_26 (c_X5_sharesStationWith (by assumption)) (n20 (by assumption)) ⟨by decide, by decide⟩ rfl rfl (by decide) (by decide) (Nat.le_of_ble_eq_true rfl) (fun _ _ r26 => ?_) (fun _ _ h => h.elim)
          obtain ⟨rfl, rfl⟩ := r26
          refine J_eq (st' := [.int (kb (shrF I a23 (0 ||| (I 20 a7 9))))]) rfl rfl rfl ?_
          refine J_if_eq 34 (by decide) dX0_shareNoStation_29 (fun c27 => ?_) (fun c27 => ?_)
          · skip
            refine J_iload_n 1 rfl dX0_shareNoStation_34 ?_
            refine J_aload_n 3 rfl dX0_shareNoStation_35 ?_
            refine gf_0_46 (n20 (by assumption)) dX0_shareNoStation_36 ?_
            refine J_ior dX0_shareNoStation_39 ?_
            refine J_istore_n (lv' := [(0, .ref (ka S 3 0)), (1, .int ((0 ||| (I 20 a7 9)) ||| (I 20 a23 9))), (2, .int 2), (3, .ref a23)]) (by decide) rfl dX0_shareNoStation_40 ?_
            refine J_iinc (v := 3) (lv' := [(0, .ref (ka S 3 0)), (1, .int ((0 ||| (I 20 a7 9)) ||| (I 20 a23 9))), (2, .int 3), (3, .ref a23)]) 2 rfl (by decide) (by decide) rfl dX0_shareNoStation_41 ?_
            refine J_goto 4 (by decide) dX0_shareNoStation_44 ?_
            refine J_iload_n 2 rfl dX0_shareNoStation_4 ?_
            refine J_aload_n 0 rfl dX0_shareNoStation_5 ?_
            refine gf_0_11 (n3 _) dX0_shareNoStation_6 ?_
            refine J_alen (v := 3) 5 (n14 _) rfl rfl rfl dX0_shareNoStation_9 ?_
            refine J_icmp_ge 47 (by decide) dX0_shareNoStation_10 (fun c29 => ?_) (fun c29 => ?_)
            rotate_left
            · exact absurd (by decide) c29
            refine J_iconst (v := 1) (by decide) dX0_shareNoStation_47 ?_
            exact J_ireturn rfl (by first | rfl | assumption | simp [kb_nar]) dX0_shareNoStation_48 (⟨by (try simp only [kb_0, kb_1, kb_n0, kb_n1, decide_eq_false_iff_not, decide_eq_true_eq, ne_eq, Classical.not_not] at *); first | (simp [kb, kb_0, kb_1, vr_n, vr_s, noShF, shF_none, shF_some, wyF_n, wyF_s, or0, *]; done) | (simp [kb, kb_0, kb_1, vr_n, vr_s, noShF, shF_none, shF_some, wyF_n, wyF_s, or0, *] <;> grind), rfl⟩) (by omega) (by omega)
          · skip
            refine J_iconst (v := 0) (by decide) dX0_shareNoStation_32 ?_
            exact J_ireturn rfl (by first | rfl | assumption | simp [kb_nar]) dX0_shareNoStation_33 (⟨by (try simp only [kb_0, kb_1, kb_n0, kb_n1, decide_eq_false_iff_not, decide_eq_true_eq, ne_eq, Classical.not_not] at *); first | (simp [kb, kb_0, kb_1, vr_n, vr_s, noShF, shF_none, shF_some, wyF_n, wyF_s, or0, *]; done) | (simp [kb, kb_0, kb_1, vr_n, vr_s, noShF, shF_none, shF_some, wyF_n, wyF_s, or0, *] <;> grind), rfl⟩) (by omega) (by omega)
      · skip
        refine J_iconst (v := 0) (by decide) dX0_shareNoStation_32 ?_
        exact J_ireturn rfl (by first | rfl | assumption | simp [kb_nar]) dX0_shareNoStation_33 (⟨by (try simp only [kb_0, kb_1, kb_n0, kb_n1, decide_eq_false_iff_not, decide_eq_true_eq, ne_eq, Classical.not_not] at *); first | (simp [kb, kb_0, kb_1, vr_n, vr_s, noShF, shF_none, shF_some, wyF_n, wyF_s, or0, *]; done) | (simp [kb, kb_0, kb_1, vr_n, vr_s, noShF, shF_none, shF_some, wyF_n, wyF_s, or0, *] <;> grind), rfl⟩) (by omega) (by omega)
  · skip
    have ma3 : a3 ∈ LP := hsp _ _ (by decide) o2
    refine J_topv (v' := .ref a3) (by first | rfl | (rw [o2]; rfl)) ?_
    refine J_astore_n (lv' := [(0, .ref (ka S 3 0)), (1, .int 0), (2, .int 0), (3, .ref a3)]) (by decide) rfl dX0_shareNoStation_19 ?_
    refine J_aload_n 3 rfl dX0_shareNoStation_20 ?_
    refine J_ifnull dX0_shareNoStation_21 ?_
    refine J_aload_n 3 rfl dX0_shareNoStation_24 ?_
    refine J_iload_n 1 rfl dX0_shareNoStation_25 ?_
    refine cv_0_21 (cells' := 0) (slots' := 0) dX0_shareNoStation_26 (c_X5_sharesStationWith (by assumption)) (n20 (by assumption)) ⟨by decide, by decide⟩ rfl rfl (by decide) (by decide) (Nat.le_of_ble_eq_true rfl) (fun _ _ r30 => ?_) (fun _ _ h => h.elim)
    obtain ⟨rfl, rfl⟩ := r30
    refine J_eq (st' := [.int (kb (shrF I a3 0))]) rfl rfl rfl ?_
    refine J_if_eq 34 (by decide) dX0_shareNoStation_29 (fun c31 => ?_) (fun c31 => ?_)
    · skip
      refine J_iload_n 1 rfl dX0_shareNoStation_34 ?_
      refine J_aload_n 3 rfl dX0_shareNoStation_35 ?_
      refine gf_0_46 (n20 (by assumption)) dX0_shareNoStation_36 ?_
      refine J_ior dX0_shareNoStation_39 ?_
      refine J_istore_n (lv' := [(0, .ref (ka S 3 0)), (1, .int (0 ||| (I 20 a3 9))), (2, .int 0), (3, .ref a3)]) (by decide) rfl dX0_shareNoStation_40 ?_
      refine J_iinc (v := 1) (lv' := [(0, .ref (ka S 3 0)), (1, .int (0 ||| (I 20 a3 9))), (2, .int 1), (3, .ref a3)]) 2 rfl (by decide) (by decide) rfl dX0_shareNoStation_41 ?_
      refine J_goto 4 (by decide) dX0_shareNoStation_44 ?_
      refine J_iload_n 2 rfl dX0_shareNoStation_4 ?_
      refine J_aload_n 0 rfl dX0_shareNoStation_5 ?_
      refine gf_0_11 (n3 _) dX0_shareNoStation_6 ?_
      refine J_alen (v := 3) 5 (n14 _) rfl rfl rfl dX0_shareNoStation_9 ?_
      refine J_icmp_ge 47 (by decide) dX0_shareNoStation_10 (fun c33 => ?_) (fun c33 => ?_)
      · exact absurd c33 (by decide)
      refine J_aload_n 0 rfl dX0_shareNoStation_13 ?_
      refine gf_0_11 (n3 _) dX0_shareNoStation_14 ?_
      refine J_iload_n 2 rfl dX0_shareNoStation_17 ?_
      refine J_aald 1 5 (n14 _) rfl rfl (vp_in_iff.mpr (by decide)) (by decide) dX0_shareNoStation_18 ?_
      rcases opt_split (R 14 0 1) with o34 | ⟨a35, o34⟩
      · skip
        refine J_topv (v' := .null) (by first | rfl | (rw [o34]; rfl)) ?_
        refine J_astore_nN (lv' := [(0, .ref (ka S 3 0)), (1, .int (0 ||| (I 20 a3 9))), (2, .int 1), (3, .null)]) (by decide) rfl dX0_shareNoStation_19 ?_
        refine J_aload_nN 3 rfl dX0_shareNoStation_20 ?_
        refine J_ifnullN 41 (by decide) dX0_shareNoStation_21 ?_
        refine J_iinc (v := 2) (lv' := [(0, .ref (ka S 3 0)), (1, .int (0 ||| (I 20 a3 9))), (2, .int 2), (3, .null)]) 2 rfl (by decide) (by decide) rfl dX0_shareNoStation_41 ?_
        refine J_goto 4 (by decide) dX0_shareNoStation_44 ?_
        refine J_iload_n 2 rfl dX0_shareNoStation_4 ?_
        refine J_aload_n 0 rfl dX0_shareNoStation_5 ?_
        refine gf_0_11 (n3 _) dX0_shareNoStation_6 ?_
        refine J_alen (v := 3) 5 (n14 _) rfl rfl rfl dX0_shareNoStation_9 ?_
        refine J_icmp_ge 47 (by decide) dX0_shareNoStation_10 (fun c37 => ?_) (fun c37 => ?_)
        · exact absurd c37 (by decide)
        refine J_aload_n 0 rfl dX0_shareNoStation_13 ?_
        refine gf_0_11 (n3 _) dX0_shareNoStation_14 ?_
        refine J_iload_n 2 rfl dX0_shareNoStation_17 ?_
        refine J_aald 2 5 (n14 _) rfl rfl (vp_in_iff.mpr (by decide)) (by decide) dX0_shareNoStation_18 ?_
        rcases opt_split (R 14 0 2) with o38 | ⟨a39, o38⟩
        · skip
          refine J_topv (v' := .null) (by first | rfl | (rw [o38]; rfl)) ?_
          refine J_astore_nN (lv' := [(0, .ref (ka S 3 0)), (1, .int (0 ||| (I 20 a3 9))), (2, .int 2), (3, .null)]) (by decide) rfl dX0_shareNoStation_19 ?_
          refine J_aload_nN 3 rfl dX0_shareNoStation_20 ?_
          refine J_ifnullN 41 (by decide) dX0_shareNoStation_21 ?_
          refine J_iinc (v := 3) (lv' := [(0, .ref (ka S 3 0)), (1, .int (0 ||| (I 20 a3 9))), (2, .int 3), (3, .null)]) 2 rfl (by decide) (by decide) rfl dX0_shareNoStation_41 ?_
          refine J_goto 4 (by decide) dX0_shareNoStation_44 ?_
          refine J_iload_n 2 rfl dX0_shareNoStation_4 ?_
          refine J_aload_n 0 rfl dX0_shareNoStation_5 ?_
          refine gf_0_11 (n3 _) dX0_shareNoStation_6 ?_
          refine J_alen (v := 3) 5 (n14 _) rfl rfl rfl dX0_shareNoStation_9 ?_
          refine J_icmp_ge 47 (by decide) dX0_shareNoStation_10 (fun c41 => ?_) (fun c41 => ?_)
          rotate_left
          · exact absurd (by decide) c41
          refine J_iconst (v := 1) (by decide) dX0_shareNoStation_47 ?_
          exact J_ireturn rfl (by first | rfl | assumption | simp [kb_nar]) dX0_shareNoStation_48 (⟨by (try simp only [kb_0, kb_1, kb_n0, kb_n1, decide_eq_false_iff_not, decide_eq_true_eq, ne_eq, Classical.not_not] at *); first | (simp [kb, kb_0, kb_1, vr_n, vr_s, noShF, shF_none, shF_some, wyF_n, wyF_s, or0, *]; done) | (simp [kb, kb_0, kb_1, vr_n, vr_s, noShF, shF_none, shF_some, wyF_n, wyF_s, or0, *] <;> grind), rfl⟩) (by omega) (by omega)
        · skip
          have ma39 : a39 ∈ LP := hsp _ _ (by decide) o38
          refine J_topv (v' := .ref a39) (by first | rfl | (rw [o38]; rfl)) ?_
          refine J_astore_n (lv' := [(0, .ref (ka S 3 0)), (1, .int (0 ||| (I 20 a3 9))), (2, .int 2), (3, .ref a39)]) (by decide) rfl dX0_shareNoStation_19 ?_
          refine J_aload_n 3 rfl dX0_shareNoStation_20 ?_
          refine J_ifnull dX0_shareNoStation_21 ?_
          refine J_aload_n 3 rfl dX0_shareNoStation_24 ?_
          refine J_iload_n 1 rfl dX0_shareNoStation_25 ?_
          refine cv_0_21 (cells' := 0) (slots' := 0) dX0_shareNoStation_26 (c_X5_sharesStationWith (by assumption)) (n20 (by assumption)) ⟨by decide, by decide⟩ rfl rfl (by decide) (by decide) (Nat.le_of_ble_eq_true rfl) (fun _ _ r42 => ?_) (fun _ _ h => h.elim)
          obtain ⟨rfl, rfl⟩ := r42
          refine J_eq (st' := [.int (kb (shrF I a39 (0 ||| (I 20 a3 9))))]) rfl rfl rfl ?_
          refine J_if_eq 34 (by decide) dX0_shareNoStation_29 (fun c43 => ?_) (fun c43 => ?_)
          · skip
            refine J_iload_n 1 rfl dX0_shareNoStation_34 ?_
            refine J_aload_n 3 rfl dX0_shareNoStation_35 ?_
            refine gf_0_46 (n20 (by assumption)) dX0_shareNoStation_36 ?_
            refine J_ior dX0_shareNoStation_39 ?_
            refine J_istore_n (lv' := [(0, .ref (ka S 3 0)), (1, .int ((0 ||| (I 20 a3 9)) ||| (I 20 a39 9))), (2, .int 2), (3, .ref a39)]) (by decide) rfl dX0_shareNoStation_40 ?_
            refine J_iinc (v := 3) (lv' := [(0, .ref (ka S 3 0)), (1, .int ((0 ||| (I 20 a3 9)) ||| (I 20 a39 9))), (2, .int 3), (3, .ref a39)]) 2 rfl (by decide) (by decide) rfl dX0_shareNoStation_41 ?_
            refine J_goto 4 (by decide) dX0_shareNoStation_44 ?_
            refine J_iload_n 2 rfl dX0_shareNoStation_4 ?_
            refine J_aload_n 0 rfl dX0_shareNoStation_5 ?_
            refine gf_0_11 (n3 _) dX0_shareNoStation_6 ?_
            refine J_alen (v := 3) 5 (n14 _) rfl rfl rfl dX0_shareNoStation_9 ?_
            refine J_icmp_ge 47 (by decide) dX0_shareNoStation_10 (fun c45 => ?_) (fun c45 => ?_)
            rotate_left
            · exact absurd (by decide) c45
            refine J_iconst (v := 1) (by decide) dX0_shareNoStation_47 ?_
            exact J_ireturn rfl (by first | rfl | assumption | simp [kb_nar]) dX0_shareNoStation_48 (⟨by (try simp only [kb_0, kb_1, kb_n0, kb_n1, decide_eq_false_iff_not, decide_eq_true_eq, ne_eq, Classical.not_not] at *); first | (simp [kb, kb_0, kb_1, vr_n, vr_s, noShF, shF_none, shF_some, wyF_n, wyF_s, or0, *]; done) | (simp [kb, kb_0, kb_1, vr_n, vr_s, noShF, shF_none, shF_some, wyF_n, wyF_s, or0, *] <;> grind), rfl⟩) (by omega) (by omega)
          · skip
            refine J_iconst (v := 0) (by decide) dX0_shareNoStation_32 ?_
            exact J_ireturn rfl (by first | rfl | assumption | simp [kb_nar]) dX0_shareNoStation_33 (⟨by (try simp only [kb_0, kb_1, kb_n0, kb_n1, decide_eq_false_iff_not, decide_eq_true_eq, ne_eq, Classical.not_not] at *); first | (simp [kb, kb_0, kb_1, vr_n, vr_s, noShF, shF_none, shF_some, wyF_n, wyF_s, or0, *]; done) | (simp [kb, kb_0, kb_1, vr_n, vr_s, noShF, shF_none, shF_some, wyF_n, wyF_s, or0, *] <;> grind), rfl⟩) (by omega) (by omega)
      · skip
        have ma35 : a35 ∈ LP := hsp _ _ (by decide) o34
        refine J_topv (v' := .ref a35) (by first | rfl | (rw [o34]; rfl)) ?_
        refine J_astore_n (lv' := [(0, .ref (ka S 3 0)), (1, .int (0 ||| (I 20 a3 9))), (2, .int 1), (3, .ref a35)]) (by decide) rfl dX0_shareNoStation_19 ?_
        refine J_aload_n 3 rfl dX0_shareNoStation_20 ?_
        refine J_ifnull dX0_shareNoStation_21 ?_
        refine J_aload_n 3 rfl dX0_shareNoStation_24 ?_
        refine J_iload_n 1 rfl dX0_shareNoStation_25 ?_
        refine cv_0_21 (cells' := 0) (slots' := 0) dX0_shareNoStation_26 (c_X5_sharesStationWith (by assumption)) (n20 (by assumption)) ⟨by decide, by decide⟩ rfl rfl (by decide) (by decide) (Nat.le_of_ble_eq_true rfl) (fun _ _ r46 => ?_) (fun _ _ h => h.elim)
        obtain ⟨rfl, rfl⟩ := r46
        refine J_eq (st' := [.int (kb (shrF I a35 (0 ||| (I 20 a3 9))))]) rfl rfl rfl ?_
        refine J_if_eq 34 (by decide) dX0_shareNoStation_29 (fun c47 => ?_) (fun c47 => ?_)
        · skip
          refine J_iload_n 1 rfl dX0_shareNoStation_34 ?_
          refine J_aload_n 3 rfl dX0_shareNoStation_35 ?_
          refine gf_0_46 (n20 (by assumption)) dX0_shareNoStation_36 ?_
          refine J_ior dX0_shareNoStation_39 ?_
          refine J_istore_n (lv' := [(0, .ref (ka S 3 0)), (1, .int ((0 ||| (I 20 a3 9)) ||| (I 20 a35 9))), (2, .int 1), (3, .ref a35)]) (by decide) rfl dX0_shareNoStation_40 ?_
          refine J_iinc (v := 2) (lv' := [(0, .ref (ka S 3 0)), (1, .int ((0 ||| (I 20 a3 9)) ||| (I 20 a35 9))), (2, .int 2), (3, .ref a35)]) 2 rfl (by decide) (by decide) rfl dX0_shareNoStation_41 ?_
          refine J_goto 4 (by decide) dX0_shareNoStation_44 ?_
          refine J_iload_n 2 rfl dX0_shareNoStation_4 ?_
          refine J_aload_n 0 rfl dX0_shareNoStation_5 ?_
          refine gf_0_11 (n3 _) dX0_shareNoStation_6 ?_
          refine J_alen (v := 3) 5 (n14 _) rfl rfl rfl dX0_shareNoStation_9 ?_
          refine J_icmp_ge 47 (by decide) dX0_shareNoStation_10 (fun c49 => ?_) (fun c49 => ?_)
          · exact absurd c49 (by decide)
          refine J_aload_n 0 rfl dX0_shareNoStation_13 ?_
          refine gf_0_11 (n3 _) dX0_shareNoStation_14 ?_
          refine J_iload_n 2 rfl dX0_shareNoStation_17 ?_
          refine J_aald 2 5 (n14 _) rfl rfl (vp_in_iff.mpr (by decide)) (by decide) dX0_shareNoStation_18 ?_
          rcases opt_split (R 14 0 2) with o50 | ⟨a51, o50⟩
          · skip
            refine J_topv (v' := .null) (by first | rfl | (rw [o50]; rfl)) ?_
            refine J_astore_nN (lv' := [(0, .ref (ka S 3 0)), (1, .int ((0 ||| (I 20 a3 9)) ||| (I 20 a35 9))), (2, .int 2), (3, .null)]) (by decide) rfl dX0_shareNoStation_19 ?_
            refine J_aload_nN 3 rfl dX0_shareNoStation_20 ?_
            refine J_ifnullN 41 (by decide) dX0_shareNoStation_21 ?_
            refine J_iinc (v := 3) (lv' := [(0, .ref (ka S 3 0)), (1, .int ((0 ||| (I 20 a3 9)) ||| (I 20 a35 9))), (2, .int 3), (3, .null)]) 2 rfl (by decide) (by decide) rfl dX0_shareNoStation_41 ?_
            refine J_goto 4 (by decide) dX0_shareNoStation_44 ?_
            refine J_iload_n 2 rfl dX0_shareNoStation_4 ?_
            refine J_aload_n 0 rfl dX0_shareNoStation_5 ?_
            refine gf_0_11 (n3 _) dX0_shareNoStation_6 ?_
            refine J_alen (v := 3) 5 (n14 _) rfl rfl rfl dX0_shareNoStation_9 ?_
            refine J_icmp_ge 47 (by decide) dX0_shareNoStation_10 (fun c53 => ?_) (fun c53 => ?_)
            rotate_left
            · exact absurd (by decide) c53
            refine J_iconst (v := 1) (by decide) dX0_shareNoStation_47 ?_
            exact J_ireturn rfl (by first | rfl | assumption | simp [kb_nar]) dX0_shareNoStation_48 (⟨by (try simp only [kb_0, kb_1, kb_n0, kb_n1, decide_eq_false_iff_not, decide_eq_true_eq, ne_eq, Classical.not_not] at *); first | (simp [kb, kb_0, kb_1, vr_n, vr_s, noShF, shF_none, shF_some, wyF_n, wyF_s, or0, *]; done) | (simp [kb, kb_0, kb_1, vr_n, vr_s, noShF, shF_none, shF_some, wyF_n, wyF_s, or0, *] <;> grind), rfl⟩) (by omega) (by omega)
          · skip
            have ma51 : a51 ∈ LP := hsp _ _ (by decide) o50
            refine J_topv (v' := .ref a51) (by first | rfl | (rw [o50]; rfl)) ?_
            refine J_astore_n (lv' := [(0, .ref (ka S 3 0)), (1, .int ((0 ||| (I 20 a3 9)) ||| (I 20 a35 9))), (2, .int 2), (3, .ref a51)]) (by decide) rfl dX0_shareNoStation_19 ?_
            refine J_aload_n 3 rfl dX0_shareNoStation_20 ?_
            refine J_ifnull dX0_shareNoStation_21 ?_
            refine J_aload_n 3 rfl dX0_shareNoStation_24 ?_
            refine J_iload_n 1 rfl dX0_shareNoStation_25 ?_
            refine cv_0_21 (cells' := 0) (slots' := 0) dX0_shareNoStation_26 (c_X5_sharesStationWith (by assumption)) (n20 (by assumption)) ⟨by decide, by decide⟩ rfl rfl (by decide) (by decide) (Nat.le_of_ble_eq_true rfl) (fun _ _ r54 => ?_) (fun _ _ h => h.elim)
            obtain ⟨rfl, rfl⟩ := r54
            refine J_eq (st' := [.int (kb (shrF I a51 ((0 ||| (I 20 a3 9)) ||| (I 20 a35 9))))]) rfl rfl rfl ?_
            refine J_if_eq 34 (by decide) dX0_shareNoStation_29 (fun c55 => ?_) (fun c55 => ?_)
            · skip
              refine J_iload_n 1 rfl dX0_shareNoStation_34 ?_
              refine J_aload_n 3 rfl dX0_shareNoStation_35 ?_
              refine gf_0_46 (n20 (by assumption)) dX0_shareNoStation_36 ?_
              refine J_ior dX0_shareNoStation_39 ?_
              refine J_istore_n (lv' := [(0, .ref (ka S 3 0)), (1, .int (((0 ||| (I 20 a3 9)) ||| (I 20 a35 9)) ||| (I 20 a51 9))), (2, .int 2), (3, .ref a51)]) (by decide) rfl dX0_shareNoStation_40 ?_
              refine J_iinc (v := 3) (lv' := [(0, .ref (ka S 3 0)), (1, .int (((0 ||| (I 20 a3 9)) ||| (I 20 a35 9)) ||| (I 20 a51 9))), (2, .int 3), (3, .ref a51)]) 2 rfl (by decide) (by decide) rfl dX0_shareNoStation_41 ?_
              refine J_goto 4 (by decide) dX0_shareNoStation_44 ?_
              refine J_iload_n 2 rfl dX0_shareNoStation_4 ?_
              refine J_aload_n 0 rfl dX0_shareNoStation_5 ?_
              refine gf_0_11 (n3 _) dX0_shareNoStation_6 ?_
              refine J_alen (v := 3) 5 (n14 _) rfl rfl rfl dX0_shareNoStation_9 ?_
              refine J_icmp_ge 47 (by decide) dX0_shareNoStation_10 (fun c57 => ?_) (fun c57 => ?_)
              rotate_left
              · exact absurd (by decide) c57
              refine J_iconst (v := 1) (by decide) dX0_shareNoStation_47 ?_
              exact J_ireturn rfl (by first | rfl | assumption | simp [kb_nar]) dX0_shareNoStation_48 (⟨by (try simp only [kb_0, kb_1, kb_n0, kb_n1, decide_eq_false_iff_not, decide_eq_true_eq, ne_eq, Classical.not_not] at *); first | (simp [kb, kb_0, kb_1, vr_n, vr_s, noShF, shF_none, shF_some, wyF_n, wyF_s, or0, *]; done) | (simp [kb, kb_0, kb_1, vr_n, vr_s, noShF, shF_none, shF_some, wyF_n, wyF_s, or0, *] <;> grind), rfl⟩) (by omega) (by omega)
            · skip
              refine J_iconst (v := 0) (by decide) dX0_shareNoStation_32 ?_
              exact J_ireturn rfl (by first | rfl | assumption | simp [kb_nar]) dX0_shareNoStation_33 (⟨by (try simp only [kb_0, kb_1, kb_n0, kb_n1, decide_eq_false_iff_not, decide_eq_true_eq, ne_eq, Classical.not_not] at *); first | (simp [kb, kb_0, kb_1, vr_n, vr_s, noShF, shF_none, shF_some, wyF_n, wyF_s, or0, *]; done) | (simp [kb, kb_0, kb_1, vr_n, vr_s, noShF, shF_none, shF_some, wyF_n, wyF_s, or0, *] <;> grind), rfl⟩) (by omega) (by omega)
        · skip
          refine J_iconst (v := 0) (by decide) dX0_shareNoStation_32 ?_
          exact J_ireturn rfl (by first | rfl | assumption | simp [kb_nar]) dX0_shareNoStation_33 (⟨by (try simp only [kb_0, kb_1, kb_n0, kb_n1, decide_eq_false_iff_not, decide_eq_true_eq, ne_eq, Classical.not_not] at *); first | (simp [kb, kb_0, kb_1, vr_n, vr_s, noShF, shF_none, shF_some, wyF_n, wyF_s, or0, *]; done) | (simp [kb, kb_0, kb_1, vr_n, vr_s, noShF, shF_none, shF_some, wyF_n, wyF_s, or0, *] <;> grind), rfl⟩) (by omega) (by omega)
    · skip
      refine J_iconst (v := 0) (by decide) dX0_shareNoStation_32 ?_
      exact J_ireturn rfl (by first | rfl | assumption | simp [kb_nar]) dX0_shareNoStation_33 (⟨by (try simp only [kb_0, kb_1, kb_n0, kb_n1, decide_eq_false_iff_not, decide_eq_true_eq, ne_eq, Classical.not_not] at *); first | (simp [kb, kb_0, kb_1, vr_n, vr_s, noShF, shF_none, shF_some, wyF_n, wyF_s, or0, *]; done) | (simp [kb, kb_0, kb_1, vr_n, vr_s, noShF, shF_none, shF_some, wyF_n, wyF_s, or0, *] <;> grind), rfl⟩) (by omega) (by omega)

def slotF (nx j : Nat) : Nat := if j + 1 ≤ nx then nx - 1 - j else nx + 59 - j
theorem slotF_lt {nx j : Nat} (h1 : nx < 60) (h2 : j < 60) : slotF nx j < 60 := by unfold slotF; split <;> omega
theorem slot_ge {nx j : Nat} (h : j + 1 ≤ nx) : nI nx - 1 - nI j = nI (nx - 1 - j) := by
  have e : nI nx - nI 1 = nI (nx - 1) := nI_subL (by omega)
  have e2 : nI (nx - 1) - nI j = nI (nx - 1 - j) := nI_subL (by omega)
  rw [← e2, ← e]; rfl
theorem slot_lt {nx j : Nat} (h : ¬ j + 1 ≤ nx) (hj : j < 60) : nI nx - 1 - nI j < 0 ∧ nI nx - 1 - nI j + 60 = nI (nx + 59 - j) := by
  have h1 := nI_toInt (n := nx) (by omega)
  have h2 := nI_toInt (n := j) (by omega)
  have h3 := nI_toInt (n := nx + 59 - j) (by omega)
  have e1 : (1 : Int32).toInt = 1 := by decide
  have e0 : (0 : Int32).toInt = 0 := by decide
  have e60 : (60 : Int32).toInt = 60 := by decide
  have a1 : (nI nx - 1).toInt = (nx : Int) - 1 := by rw [Int32.toInt_sub, h1, e1]; exact Int.bmod_eq_of_le (by omega) (by omega)
  have a2 : (nI nx - 1 - nI j).toInt = (nx : Int) - 1 - j := by rw [Int32.toInt_sub, a1, h2]; exact Int.bmod_eq_of_le (by omega) (by omega)
  have a3 : (nI nx - 1 - nI j + 60).toInt = (nx : Int) - 1 - j + 60 := by rw [Int32.toInt_add, a2, e60]; exact Int.bmod_eq_of_le (by omega) (by omega)
  constructor
  · rw [Int32.lt_iff_toInt_lt, a2, e0]; omega
  · apply Int32.toInt_inj.mp
    rw [h3, a3]
    omega

set_option maxRecDepth 20000 in
theorem c_X4_entry_s {cy : Nat → ClassId} {S : Nat → Nat → Nat} {I : kI} {L : kL} {R : kRf} {LP : List Nat} {nx kp j : Nat} (hnx : I 4 0 1 = nI nx) (hkp : I 4 0 2 = nI kp) (h1 : nx < 60) (h2 : kp ≤ 60) (hj : j < kp) : Con yX4_entry cX4_entry 3 (some (.object "FoghornExchange$Entry")) 6 0 0 cy [.ref (ka S 4 0), .int (nI j)] (wc cy S I L R LP) (kRet (some (.ref (ka S 18 (slotF nx j)))) (wc cy S I L R LP)) kF := by
  refine Con_of (by decide +kernel) (Nat.le_of_ble_eq_true rfl) ?_
  refine J_eq (lv' := [(0, .ref (ka S 4 0)), (1, .int (nI j))]) rfl rfl rfl ?_
  refine J_iload_n 1 rfl dX4_entry_0 ?_
  refine J_if_lt 12 (by decide) dX4_entry_1 (fun c1 => ?_) (fun c1 => ?_)
  · exfalso
    have Nc1 : j < 0 := (nI_ltI (a := j) (b := 0) (by omega) (by omega)).mp c1
    omega
  have Nc1 : ¬ (j < 0) := fun q => c1 ((nI_ltI (a := j) (b := 0) (by omega) (by omega)).mpr q)
  refine J_iload_n 1 rfl dX4_entry_4 ?_
  refine J_aload_n 0 rfl dX4_entry_5 ?_
  refine gf_4_32 (n4 _) dX4_entry_6 ?_
  refine J_topeq (nI kp) hkp ?_
  refine J_icmp_lt 22 (by decide) dX4_entry_9 (fun c2 => ?_) (fun c2 => ?_)
  rotate_left
  · exfalso
    have Nc2 : ¬ (j < kp) := fun q => c2 ((nI_ltI (a := j) (b := kp) (by omega) (by omega)).mpr q)
    omega
  have Nc2 : j < kp := (nI_ltI (a := j) (b := kp) (by omega) (by omega)).mp c2
  refine J_aload_n 0 rfl dX4_entry_22 ?_
  refine gf_4_18 (n4 _) dX4_entry_23 ?_
  refine J_topeq (nI nx) hnx ?_
  refine J_iconst (v := 1) (by decide) dX4_entry_26 ?_
  refine J_isub dX4_entry_27 ?_
  refine J_iload_n 1 rfl dX4_entry_28 ?_
  refine J_isub dX4_entry_29 ?_
  by_cases hc : j + 1 ≤ nx
  · refine J_topeq (nI (nx - 1 - j)) (slot_ge hc) ?_
    refine J_istore_n (lv' := [(0, .ref (ka S 4 0)), (1, .int (nI j)), (2, .int (nI (nx - 1 - j)))]) (by decide) rfl dX4_entry_30 ?_
    refine J_aload_n 0 rfl dX4_entry_31 ?_
    refine gf_4_11 (n4 _) dX4_entry_32 ?_
    refine J_iload_n 2 rfl dX4_entry_35 ?_
    refine J_if_lt 43 (by decide) dX4_entry_36 (fun c3 => ?_) (fun c3 => ?_)
    · exfalso
      have Nc3 : (nx - 1 - j) < 0 := (nI_ltI (a := (nx - 1 - j)) (b := 0) (by omega) (by omega)).mp c3
      omega
    have Nc3 : ¬ ((nx - 1 - j) < 0) := fun q => c3 ((nI_ltI (a := (nx - 1 - j)) (b := 0) (by omega) (by omega)).mpr q)
    refine J_iload_n 2 rfl dX4_entry_39 ?_
    refine J_goto 50 (by decide) dX4_entry_40 ?_
    refine J_aald (nx - 1 - j) 7 (n16 _) rfl rfl (vp_in_nI (by omega) (by decide)) (nI_toNat (by omega)) dX4_entry_50 ?_
    exact J_areturn rfl (by first | exact Or.inl ⟨_, rfl⟩ | exact Or.inr ⟨_, rfl⟩) (by first | exact Or.inl rfl | exact Or.inr ⟨_, rfl⟩ | exact va_rf_or _) dX4_entry_51 (⟨by unfold slotF; first | (rw [if_pos hc]; rfl) | (rw [if_neg hc]; rfl), rfl⟩) (by omega) (by omega)
  · obtain ⟨hneg, hsl⟩ := slot_lt (nx := nx) (j := j) hc (by omega)
    refine J_istore_n (lv' := [(0, .ref (ka S 4 0)), (1, .int (nI j)), (2, .int (((nI nx) - 1) - (nI j)))]) (by decide) rfl dX4_entry_30 ?_
    refine J_aload_n 0 rfl dX4_entry_31 ?_
    refine gf_4_11 (n4 _) dX4_entry_32 ?_
    refine J_iload_n 2 rfl dX4_entry_35 ?_
    refine J_if_lt 43 (by decide) dX4_entry_36 (fun c4 => ?_) (fun c4 => ?_)
    rotate_left
    · exfalso
      exact absurd hneg c4
    refine J_iload_n 2 rfl dX4_entry_43 ?_
    refine J_aload_n 0 rfl dX4_entry_44 ?_
    refine gf_4_11 (n4 _) dX4_entry_45 ?_
    refine J_alen (v := 60) 7 (n16 _) rfl rfl rfl dX4_entry_48 ?_
    refine J_iadd dX4_entry_49 ?_
    refine J_topeq (nI (nx + 59 - j)) hsl ?_
    refine J_aald (nx + 59 - j) 7 (n16 _) rfl rfl (vp_in_nI (by omega) (by decide)) (nI_toNat (by omega)) dX4_entry_50 ?_
    exact J_areturn rfl (by first | exact Or.inl ⟨_, rfl⟩ | exact Or.inr ⟨_, rfl⟩) (by first | exact Or.inl rfl | exact Or.inr ⟨_, rfl⟩ | exact va_rf_or _) dX4_entry_51 (⟨by unfold slotF; first | (rw [if_pos hc]; rfl) | (rw [if_neg hc]; rfl), rfl⟩) (by omega) (by omega)

set_option maxRecDepth 20000 in
theorem c_X4_entry_x {cy : Nat → ClassId} {S : Nat → Nat → Nat} {I : kI} {L : kL} {R : kRf} {LP : List Nat} {nx kp : Nat} {x : Int32} (hnx : I 4 0 1 = nI nx) (hkp : I 4 0 2 = nI kp) (h1 : nx < 60) (h2 : kp ≤ 60) (hx : ∀ s, s < kp → x ≠ nI s) : Con yX4_entry cX4_entry 3 (some (.object "FoghornExchange$Entry")) 6 1 6 cy [.ref (ka S 4 0), .int x] (wc cy S I L R LP) kNo (kThr "java/util/NoSuchElementException" (wc cy S I L R LP)) := by
  refine Con_of (by decide +kernel) (Nat.le_of_ble_eq_true rfl) ?_
  refine J_eq (lv' := [(0, .ref (ka S 4 0)), (1, .int x)]) rfl rfl rfl ?_
  refine J_iload_n 1 rfl dX4_entry_0 ?_
  refine J_if_lt 12 (by decide) dX4_entry_1 (fun c1 => ?_) (fun c1 => ?_)
  · skip
    exact J_throwX (E := "java/util/NoSuchElementException") (Y0 := "java/lang/RuntimeException") (ix := 13) (rx := prog_22_method_4_code) (ns := ["java/lang/Exception"]) (text := "no such entry") (ik := 44) (is := 46) (ic := 48) rfl nse_code exc_NoSuchElementException (by decide +kernel) cl_4_44 ini_NoSuchElementException at_4_48 fitX_NoSuchElementException (⟨rfl, rfl⟩) (by decide) (Nat.le_of_ble_eq_true rfl) (by decide) (by decide) dX4_entry_12 dX4_entry_15 dX4_entry_16 dX4_entry_18 dX4_entry_21
  · skip
    obtain ⟨j, hj, rfl⟩ := nI_of c1
    refine J_iload_n 1 rfl dX4_entry_4 ?_
    refine J_aload_n 0 rfl dX4_entry_5 ?_
    refine gf_4_32 (n4 _) dX4_entry_6 ?_
    refine J_topeq (nI kp) hkp ?_
    refine J_icmp_lt 22 (by decide) dX4_entry_9 (fun c2 => ?_) (fun c2 => ?_)
    · have Nc2 : j < kp := (nI_ltI (a := j) (b := kp) (by omega) (by omega)).mp c2
      exact absurd rfl (hx j (by omega))
    · have Nc2 : ¬ (j < kp) := fun q => c2 ((nI_ltI (a := j) (b := kp) (by omega) (by omega)).mpr q)
      exact J_throwX (E := "java/util/NoSuchElementException") (Y0 := "java/lang/RuntimeException") (ix := 13) (rx := prog_22_method_4_code) (ns := ["java/lang/Exception"]) (text := "no such entry") (ik := 44) (is := 46) (ic := 48) rfl nse_code exc_NoSuchElementException (by decide +kernel) cl_4_44 ini_NoSuchElementException at_4_48 fitX_NoSuchElementException (⟨rfl, rfl⟩) (by decide) (Nat.le_of_ble_eq_true rfl) (by decide) (by decide) dX4_entry_12 dX4_entry_15 dX4_entry_16 dX4_entry_18 dX4_entry_21

set_option maxRecDepth 20000 in
theorem c_X1_isFull {cy : Nat → ClassId} {S : Nat → Nat → Nat} {I : kI} {L : kL} {R : kRf} {LP : List Nat} {ns : Nat} (hst : stF I ns) : Con yX1_isFull cX1_isFull 1 (some .boolean) 0 0 0 cy [.ref (ka S 1 0)] (wc cy S I L R LP) (kRet (some (.int (kb (decide (10 ≤ ns))))) (wc cy S I L R LP)) kF := by
  refine Con_of (by decide +kernel) (Nat.le_of_ble_eq_true rfl) ?_
  refine J_eq (lv' := [(0, .ref (ka S 1 0))]) rfl rfl rfl ?_
  have hst2 := hst.2
  refine J_aload_n 0 rfl dX1_isFull_0 ?_
  refine gf_1_33 (n1 _) dX1_isFull_1 ?_
  refine J_topeq (nI ns) hst.1 ?_
  refine J_aload_n 0 rfl dX1_isFull_4 ?_
  refine gf_1_11 (n1 _) dX1_isFull_5 ?_
  refine J_alen (v := 10) 6 (n6 _) rfl rfl rfl dX1_isFull_8 ?_
  refine J_icmp_lt 16 (by decide) dX1_isFull_9 (fun c1 => ?_) (fun c1 => ?_)
  · have Nc1 : ns < 10 := (nI_ltI (a := ns) (b := 10) (by omega) (by omega)).mp c1
    refine J_iconst (v := 0) (by decide) dX1_isFull_16 ?_
    exact J_ireturn rfl (by first | rfl | assumption | simp [kb_nar]) dX1_isFull_17 (⟨by first | (rw [decide_eq_true (show 10 ≤ ns by omega)]; rfl) | (rw [decide_eq_false (show ¬ 10 ≤ ns by omega)]; rfl), rfl⟩) (by omega) (by omega)
  · have Nc1 : ¬ (ns < 10) := fun q => c1 ((nI_ltI (a := ns) (b := 10) (by omega) (by omega)).mpr q)
    refine J_iconst (v := 1) (by decide) dX1_isFull_12 ?_
    refine J_goto 17 (by decide) dX1_isFull_13 ?_
    exact J_ireturn rfl (by first | rfl | assumption | simp [kb_nar]) dX1_isFull_17 (⟨by first | (rw [decide_eq_true (show 10 ≤ ns by omega)]; rfl) | (rw [decide_eq_false (show ¬ 10 ≤ ns by omega)]; rfl), rfl⟩) (by omega) (by omega)

set_option maxRecDepth 20000 in
theorem c_X1_areLinked {cy : Nat → ClassId} {S : Nat → Nat → Nat} {I : kI} {L : kL} {R : kRf} {LP : List Nat} {ns s t : Nat} (hst : stF I ns) (hs : s < ns) (ht : t < ns) : Con yX1_areLinked cX1_areLinked 3 (some .boolean) 7 0 0 cy [.ref (ka S 1 0), .int (nI s), .int (nI t)] (wc cy S I L R LP) (kRet (some (.int (kb (linkB I s t)))) (wc cy S I L R LP)) kF := by
  refine Con_of (by decide +kernel) (Nat.le_of_ble_eq_true rfl) ?_
  refine J_eq (lv' := [(0, .ref (ka S 1 0)), (1, .int (nI s)), (2, .int (nI t))]) rfl rfl rfl ?_
  have hst2 := hst.2
  refine J_aload_n 0 rfl dX1_areLinked_0 ?_
  refine J_iload_n 1 rfl dX1_areLinked_1 ?_
  refine cv_1_54 (cells' := 0) (slots' := 0) dX1_areLinked_2 (c_X1_numbered_s hst hs) (n1 _) ⟨by decide, by decide⟩ rfl rfl (by decide) (by decide) (Nat.le_of_ble_eq_true rfl) (fun _ _ r1 => ?_) (fun _ _ h => h.elim)
  obtain ⟨rfl, rfl⟩ := r1
  refine J_eq (st' := [.ref (ka S 17 s)]) rfl rfl rfl ?_
  refine J_aload_n 0 rfl dX1_areLinked_5 ?_
  refine J_iload_n 2 rfl dX1_areLinked_6 ?_
  refine cv_1_54 (cells' := 0) (slots' := 0) dX1_areLinked_7 (c_X1_numbered_s hst ht) (n1 _) ⟨by decide, by decide⟩ rfl rfl (by decide) (by decide) (Nat.le_of_ble_eq_true rfl) (fun _ _ r2 => ?_) (fun _ _ h => h.elim)
  obtain ⟨rfl, rfl⟩ := r2
  refine J_eq (st' := [.ref (ka S 17 t), .ref (ka S 17 s)]) rfl rfl rfl ?_
  refine cv_1_58 (cells' := 0) (slots' := 0) dX1_areLinked_10 (c_X6_isLinkedTo (by omega) (by omega)) (n17 _ (by omega)) ⟨by decide, by decide⟩ rfl rfl (by decide) (by decide) (Nat.le_of_ble_eq_true rfl) (fun _ _ r3 => ?_) (fun _ _ h => h.elim)
  obtain ⟨rfl, rfl⟩ := r3
  refine J_eq (st' := [.int (kb (linkB I s t))]) rfl rfl rfl ?_
  exact J_ireturn rfl (by first | rfl | assumption | simp [kb_nar]) dX1_areLinked_13 (⟨rfl, rfl⟩) (by omega) (by omega)

set_option maxRecDepth 20000 in
theorem c_X1_add {cy : Nat → ClassId} {S : Nat → Nat → Nat} {I : kI} {L : kL} {R : kRf} {LP : List Nat} {ns : Nat} {p r : Int32} (hst : stF I ns) (hs : ns < 10) : Con yX1_add cX1_add 4 (some .int) 0 0 0 cy [.ref (ka S 1 0), .int p, .int r] (wc cy S I L R LP) (kRet (some (.int (nI ns))) (wc cy S (ku (ku (ku (ku I 17 ns 0 p) 17 ns 1 r) 17 ns 2 1) 1 0 5 (nI (ns + 1))) L R LP)) kF := by
  refine Con_of (by decide +kernel) (Nat.le_of_ble_eq_true rfl) ?_
  refine J_eq (lv' := [(0, .ref (ka S 1 0)), (1, .int p), (2, .int r)]) rfl rfl rfl ?_
  have hst2 := hst.2
  refine J_aload_n 0 rfl dX1_add_0 ?_
  refine gf_1_33 (n1 _) dX1_add_1 ?_
  refine J_topeq (nI ns) hst.1 ?_
  refine J_istore_n (lv' := [(0, .ref (ka S 1 0)), (1, .int p), (2, .int r), (3, .int (nI ns))]) (by decide) rfl dX1_add_4 ?_
  refine J_iload_n 3 rfl dX1_add_5 ?_
  refine J_aload_n 0 rfl dX1_add_6 ?_
  refine gf_1_11 (n1 _) dX1_add_7 ?_
  refine J_alen (v := 10) 6 (n6 _) rfl rfl rfl dX1_add_10 ?_
  refine J_icmp_ge 54 (by decide) dX1_add_11 (fun c1 => ?_) (fun c1 => ?_)
  · exfalso
    have Nc1 : 10 ≤ ns := (nI_leI (a := 10) (b := ns) (by omega) (by omega)).mp c1
    omega
  have Nc1 : ¬ (10 ≤ ns) := fun q => c1 ((nI_leI (a := 10) (b := ns) (by omega) (by omega)).mpr q)
  refine J_aload_n 0 rfl dX1_add_14 ?_
  refine gf_1_11 (n1 _) dX1_add_15 ?_
  refine J_iload_n 3 rfl dX1_add_18 ?_
  refine J_aald ns 6 (n6 _) rfl rfl (vp_in_nI (by omega) (by decide)) (nI_toNat (by omega)) dX1_add_19 ?_
  refine J_iload_n 1 rfl dX1_add_20 ?_
  refine pf_1_37 (n17 _ (by omega)) dX1_add_21 ?_
  refine J_aload_n 0 rfl dX1_add_24 ?_
  refine gf_1_11 (n1 _) dX1_add_25 ?_
  refine J_iload_n 3 rfl dX1_add_28 ?_
  refine J_aald ns 6 (n6 _) rfl rfl (vp_in_nI (by omega) (by decide)) (nI_toNat (by omega)) dX1_add_29 ?_
  refine J_iload_n 2 rfl dX1_add_30 ?_
  refine pf_1_40 (n17 _ (by omega)) dX1_add_31 ?_
  refine J_aload_n 0 rfl dX1_add_34 ?_
  refine gf_1_11 (n1 _) dX1_add_35 ?_
  refine J_iload_n 3 rfl dX1_add_38 ?_
  refine J_aald ns 6 (n6 _) rfl rfl (vp_in_nI (by omega) (by decide)) (nI_toNat (by omega)) dX1_add_39 ?_
  refine J_iconst (v := 1) (by decide) dX1_add_40 ?_
  refine pf_1_43 (by first | assumption | decide | simp) (by first | assumption | decide | simp) (n17 _ (by omega)) dX1_add_41 ?_
  refine J_aload_n 0 rfl dX1_add_44 ?_
  refine J_dup rfl dX1_add_45 ?_
  refine gf_1_33 (n1 _) dX1_add_46 ?_
  refine J_topeq (nI ns) hst.1 ?_
  refine J_iconst (v := 1) (by decide) dX1_add_49 ?_
  refine J_iadd dX1_add_50 ?_
  refine J_topeq (nI (ns + 1)) (by exact nI_add ns 1) ?_
  refine pf_1_33 (n1 _) dX1_add_51 ?_
  refine J_iload_n 3 rfl dX1_add_54 ?_
  exact J_ireturn rfl (by first | rfl | assumption | simp [kb_nar]) dX1_add_55 (⟨rfl, rfl⟩) (by omega) (by omega)

set_option maxRecDepth 20000 in
theorem c_X1_stationOfWay {cy : Nat → ClassId} {S : Nat → Nat → Nat} {I : kI} {L : kL} {R : kRf} {LP : List Nat} {j : Nat} (hj : j < 10) : Con yX1_stationOfWay cX1_stationOfWay 2 (some .int) 0 0 0 cy [.ref (ka S 1 0), .int (nI j)] (wc cy S I L R LP) (kRet (some (.int (I 9 0 j))) (wc cy S I L R LP)) kF := by
  refine Con_of (by decide +kernel) (Nat.le_of_ble_eq_true rfl) ?_
  refine J_eq (lv' := [(0, .ref (ka S 1 0)), (1, .int (nI j))]) rfl rfl rfl ?_
  refine J_iload_n 1 rfl dX1_stationOfWay_0 ?_
  refine J_if_lt 22 (by decide) dX1_stationOfWay_1 (fun c1 => ?_) (fun c1 => ?_)
  · exfalso
    have Nc1 : j < 0 := (nI_ltI (a := j) (b := 0) (by omega) (by omega)).mp c1
    omega
  have Nc1 : ¬ (j < 0) := fun q => c1 ((nI_ltI (a := j) (b := 0) (by omega) (by omega)).mpr q)
  refine J_iload_n 1 rfl dX1_stationOfWay_4 ?_
  refine J_aload_n 0 rfl dX1_stationOfWay_5 ?_
  refine gf_1_24 (n1 _) dX1_stationOfWay_6 ?_
  refine J_alen (v := 10) 0 (n9 _) rfl rfl rfl dX1_stationOfWay_9 ?_
  refine J_icmp_ge 22 (by decide) dX1_stationOfWay_10 (fun c2 => ?_) (fun c2 => ?_)
  · exfalso
    have Nc2 : 10 ≤ j := (nI_leI (a := 10) (b := j) (by omega) (by omega)).mp c2
    omega
  have Nc2 : ¬ (10 ≤ j) := fun q => c2 ((nI_leI (a := 10) (b := j) (by omega) (by omega)).mpr q)
  refine J_aload_n 0 rfl dX1_stationOfWay_13 ?_
  refine gf_1_24 (n1 _) dX1_stationOfWay_14 ?_
  refine J_iload_n 1 rfl dX1_stationOfWay_17 ?_
  refine J_iald j 0 (n9 _) rfl rfl (vp_in_nI (by omega) (by decide)) (nI_toNat (by omega)) dX1_stationOfWay_18 ?_
  refine J_goto 23 (by decide) dX1_stationOfWay_19 ?_
  exact J_ireturn rfl (by first | rfl | assumption | simp [kb_nar]) dX1_stationOfWay_23 (⟨rfl, rfl⟩) (by omega) (by omega)


