/-! small ones that throw or write -/
def kThr (E : String) (w : va_W) : kXT := fun E' w' => E' = E ∧ w' = w
def kNo : kQT := fun _ _ => False
theorem vp_nI {j n : Nat} (h : j < n) (hn : n < 2 ^ 31) : vp_in (nI j) n := vp_in_nI h hn
/-- the memory's pictures: the stations' number, the calls by their numbers -/
def stF (I : kI) (ns : Nat) : Prop := I 1 0 5 = nI ns ∧ ns ≤ 10
def clF (I : kI) (R : kRf) (LP : List Nat) (n : Nat) (rc : Nat → Nat) : Prop := I 0 0 5 = nI n ∧ n ≤ 150 ∧ ∀ i, i < n → R 5 0 i = some (rc i) ∧ rc i ∈ LP

set_option maxRecDepth 20000 in
set_option maxHeartbeats 1000000 in
theorem c_X7_weightOf {cy : Nat → ClassId} {w : va_W} {u : Int32} : Con yX7_weightOf cX7_weightOf 1 (some .int) 0 0 0 cy [.int u] w (kRet (some (.int (wghtF u))) w) kF := by
  refine Con_of (by decide +kernel) (Nat.le_of_ble_eq_true rfl) ?_
  refine J_eq (lv' := [(0, .int u)]) rfl rfl rfl ?_
  refine J_iload_n 0 rfl dX7_weightOf_0 ?_
  have hi : ∀ k : Int32, u.toInt = k.toInt → u = k := fun k h => Int32.toInt_inj.mp h
  by_cases h100 : u = 100
  · subst h100
    refine J_lookup 44 rfl rfl (by decide) dX7_weightOf_1 ?_
    refine J_iconst (v := 3) (by decide) dX7_weightOf_44 ?_
    exact J_ireturn rfl rfl dX7_weightOf_45 ⟨rfl, rfl⟩ (by decide) (by decide)
  by_cases h114 : u = 114
  · subst h114
    refine J_lookup 50 rfl rfl (by decide) dX7_weightOf_1 ?_
    refine J_iconst (v := 0) (by decide) dX7_weightOf_50 ?_
    exact J_ireturn rfl rfl dX7_weightOf_51 ⟨rfl, rfl⟩ (by decide) (by decide)
  by_cases h115 : u = 115
  · subst h115
    refine J_lookup 48 rfl rfl (by decide) dX7_weightOf_1 ?_
    refine J_iconst (v := 1) (by decide) dX7_weightOf_48 ?_
    exact J_ireturn rfl rfl dX7_weightOf_49 ⟨rfl, rfl⟩ (by decide) (by decide)
  by_cases h117 : u = 117
  · subst h117
    refine J_lookup 46 rfl rfl (by decide) dX7_weightOf_1 ?_
    refine J_iconst (v := 2) (by decide) dX7_weightOf_46 ?_
    exact J_ireturn rfl rfl dX7_weightOf_47 ⟨rfl, rfl⟩ (by decide) (by decide)
  have e1 : ¬ u.toInt = 100 := fun h => h100 (hi 100 h)
  have e2 : ¬ u.toInt = 114 := fun h => h114 (hi 114 h)
  have e3 : ¬ u.toInt = 115 := fun h => h115 (hi 115 h)
  have e4 : ¬ u.toInt = 117 := fun h => h117 (hi 117 h)
  refine J_lookup (off := 51) 52 rfl (by simp [Op.lookupswitch.offset, Ne.symm e1, Ne.symm e2, Ne.symm e3, Ne.symm e4, e1, e2, e3, e4]) (by decide) dX7_weightOf_1 ?_
  refine J_iconst (v := (-1)) (by decide) dX7_weightOf_52 ?_
  exact J_ireturn rfl rfl dX7_weightOf_53 ⟨by simp [wghtF, h100, h114, h115, h117], rfl⟩ (by decide) (by decide)

set_option maxRecDepth 20000 in
theorem c_X7_existing_s {cy : Nat → ClassId} {w : va_W} {a : Nat}  : Con yX7_existing cX7_existing 1 (some (.object "FoghornExchange$RadioCall")) 6 0 0 cy [.ref a] w (kRet (some (.ref a)) w) kF := by
  refine Con_of (by decide +kernel) (Nat.le_of_ble_eq_true rfl) ?_
  refine J_eq (lv' := [(0, .ref a)]) rfl rfl rfl ?_
  refine J_aload_n 0 rfl dX7_existing_0 ?_
  refine J_ifnonnull 15 (by decide) dX7_existing_1 ?_
  refine J_aload_n 0 rfl dX7_existing_15 ?_
  exact J_areturn rfl (by first | exact Or.inl ⟨_, rfl⟩ | exact Or.inr ⟨_, rfl⟩) (by first | exact Or.inl rfl | exact Or.inr ⟨_, rfl⟩ | exact va_rf_or _) dX7_existing_16 (⟨rfl, rfl⟩) (by omega) (by omega)

set_option maxRecDepth 20000 in
theorem c_X7_existing_n {cy : Nat → ClassId} {w : va_W}   : Con yX7_existing cX7_existing 1 (some (.object "FoghornExchange$RadioCall")) 6 1 6 cy [.null] w (fun _ _ => False) (fun E w' => E = "java/util/NoSuchElementException" ∧ w' = w) := by
  refine Con_of (by decide +kernel) (Nat.le_of_ble_eq_true rfl) ?_
  refine J_eq (lv' := [(0, .null)]) rfl rfl rfl ?_
  refine J_aload_nN 0 rfl dX7_existing_0 ?_
  refine J_ifnonnullN dX7_existing_1 ?_
  exact J_throwXW (E := "java/util/NoSuchElementException") (Y0 := "java/lang/RuntimeException") (ix := 13) (rx := prog_22_method_4_code) (ns := ["java/lang/Exception"]) (text := "no such call") (ik := 128) (is := 305) (ic := 132) rfl nse_code exc_NoSuchElementException (by decide +kernel) cl_7_128 ini_NoSuchElementException at_7_132 fitX_NoSuchElementException (⟨rfl, rfl⟩) (by decide) (Nat.le_of_ble_eq_true rfl) (by decide) (by decide) dX7_existing_4 dX7_existing_7 dX7_existing_8 dX7_existing_11 dX7_existing_14

set_option maxRecDepth 20000 in
theorem c_X1_numbered_s {cy : Nat → ClassId} {S : Nat → Nat → Nat} {I : kI} {L : kL} {R : kRf} {LP : List Nat} {ns s : Nat} (hst : stF I ns) (hs : s < ns) : Con yX1_numbered cX1_numbered 2 (some (.object "FoghornExchange$Station")) 6 0 0 cy [.ref (ka S 1 0), .int (nI s)] (wc cy S I L R LP) (kRet (some (.ref (ka S 17 s))) (wc cy S I L R LP)) kF := by
  refine Con_of (by decide +kernel) (Nat.le_of_ble_eq_true rfl) ?_
  refine J_eq (lv' := [(0, .ref (ka S 1 0)), (1, .int (nI s))]) rfl rfl rfl ?_
  have hst2 := hst.2
  refine J_iload_n 1 rfl dX1_numbered_0 ?_
  refine J_if_lt 21 (by decide) dX1_numbered_1 (fun c1 => ?_) (fun c1 => ?_)
  · exfalso
    have Nc1 : s < 0 := (nI_ltI (a := s) (b := 0) (by omega) (by omega)).mp c1
    omega
  have Nc1 : ¬ (s < 0) := fun q => c1 ((nI_ltI (a := s) (b := 0) (by omega) (by omega)).mpr q)
  refine J_iload_n 1 rfl dX1_numbered_4 ?_
  refine J_aload_n 0 rfl dX1_numbered_5 ?_
  refine gf_1_33 (n1 _) dX1_numbered_6 ?_
  refine J_topeq (nI ns) hst.1 ?_
  refine J_icmp_ge 21 (by decide) dX1_numbered_9 (fun c2 => ?_) (fun c2 => ?_)
  · exfalso
    have Nc2 : ns ≤ s := (nI_leI (a := ns) (b := s) (by omega) (by omega)).mp c2
    omega
  have Nc2 : ¬ (ns ≤ s) := fun q => c2 ((nI_leI (a := ns) (b := s) (by omega) (by omega)).mpr q)
  refine J_iload_n 1 rfl dX1_numbered_12 ?_
  refine J_aload_n 0 rfl dX1_numbered_13 ?_
  refine gf_1_11 (n1 _) dX1_numbered_14 ?_
  refine J_alen (v := 10) 6 (n6 _) rfl rfl rfl dX1_numbered_17 ?_
  refine J_icmp_lt 31 (by decide) dX1_numbered_18 (fun c3 => ?_) (fun c3 => ?_)
  rotate_left
  · exfalso
    have Nc3 : ¬ (s < 10) := fun q => c3 ((nI_ltI (a := s) (b := 10) (by omega) (by omega)).mpr q)
    omega
  have Nc3 : s < 10 := (nI_ltI (a := s) (b := 10) (by omega) (by omega)).mp c3
  refine J_aload_n 0 rfl dX1_numbered_31 ?_
  refine gf_1_11 (n1 _) dX1_numbered_32 ?_
  refine J_iload_n 1 rfl dX1_numbered_35 ?_
  refine J_aald s 6 (n6 _) rfl rfl (vp_in_nI (by omega) (by decide)) (nI_toNat (by omega)) dX1_numbered_36 ?_
  exact J_areturn rfl (by first | exact Or.inl ⟨_, rfl⟩ | exact Or.inr ⟨_, rfl⟩) (by first | exact Or.inl rfl | exact Or.inr ⟨_, rfl⟩ | exact va_rf_or _) dX1_numbered_37 (⟨rfl, rfl⟩) (by omega) (by omega)

set_option maxRecDepth 20000 in
theorem c_X1_numbered_x {cy : Nat → ClassId} {S : Nat → Nat → Nat} {I : kI} {L : kL} {R : kRf} {LP : List Nat} {ns : Nat} {x : Int32} (hst : stF I ns) (hx : ∀ s, s < ns → x ≠ nI s) : Con yX1_numbered cX1_numbered 2 (some (.object "FoghornExchange$Station")) 6 1 6 cy [.ref (ka S 1 0), .int x] (wc cy S I L R LP) kNo (kThr "java/lang/IndexOutOfBoundsException" (wc cy S I L R LP)) := by
  refine Con_of (by decide +kernel) (Nat.le_of_ble_eq_true rfl) ?_
  refine J_eq (lv' := [(0, .ref (ka S 1 0)), (1, .int x)]) rfl rfl rfl ?_
  have hst2 := hst.2
  refine J_iload_n 1 rfl dX1_numbered_0 ?_
  refine J_if_lt 21 (by decide) dX1_numbered_1 (fun c1 => ?_) (fun c1 => ?_)
  · skip
    exact J_throw (E := "java/lang/IndexOutOfBoundsException") (text := "no such station") (ik := 47) (is := 49) (ic := 51) exc_IndexOutOfBoundsException (by decide +kernel) cl_1_47 ini_IndexOutOfBoundsException at_1_51 fit_IndexOutOfBoundsException (⟨rfl, rfl⟩) (by decide) (Nat.le_of_ble_eq_true rfl) (by decide) (by decide) dX1_numbered_21 dX1_numbered_24 dX1_numbered_25 dX1_numbered_27 dX1_numbered_30
  · skip
    obtain ⟨j, hj, rfl⟩ := nI_of c1
    refine J_iload_n 1 rfl dX1_numbered_4 ?_
    refine J_aload_n 0 rfl dX1_numbered_5 ?_
    refine gf_1_33 (n1 _) dX1_numbered_6 ?_
    refine J_topeq (nI ns) hst.1 ?_
    refine J_icmp_ge 21 (by decide) dX1_numbered_9 (fun c2 => ?_) (fun c2 => ?_)
    · have Nc2 : ns ≤ j := (nI_leI (a := ns) (b := j) (by omega) (by omega)).mp c2
      exact J_throw (E := "java/lang/IndexOutOfBoundsException") (text := "no such station") (ik := 47) (is := 49) (ic := 51) exc_IndexOutOfBoundsException (by decide +kernel) cl_1_47 ini_IndexOutOfBoundsException at_1_51 fit_IndexOutOfBoundsException (⟨rfl, rfl⟩) (by decide) (Nat.le_of_ble_eq_true rfl) (by decide) (by decide) dX1_numbered_21 dX1_numbered_24 dX1_numbered_25 dX1_numbered_27 dX1_numbered_30
    · have Nc2 : ¬ (ns ≤ j) := fun q => c2 ((nI_leI (a := ns) (b := j) (by omega) (by omega)).mpr q)
      exact absurd rfl (hx j (by omega))

set_option maxRecDepth 20000 in
theorem c_X7_callNumbered_s {cy : Nat → ClassId} {S : Nat → Nat → Nat} {I : kI} {L : kL} {R : kRf} {LP : List Nat} {n i : Nat} {rc : Nat → Nat} (hcl : clF I R LP n rc) (hi : i < n) : Con yX7_callNumbered cX7_callNumbered 2 (some (.object "FoghornExchange$RadioCall")) 7 0 0 cy [.ref (ka S 0 0), .int (nI i)] (wc cy S I L R LP) (kRet (some (.ref (rc i))) (wc cy S I L R LP)) kF := by
  refine Con_of (by decide +kernel) (Nat.le_of_ble_eq_true rfl) ?_
  refine J_eq (lv' := [(0, .ref (ka S 0 0)), (1, .int (nI i))]) rfl rfl rfl ?_
  have hcl2 := hcl.2.1
  refine J_iload_n 1 rfl dX7_callNumbered_0 ?_
  refine J_if_lt 21 (by decide) dX7_callNumbered_1 (fun c1 => ?_) (fun c1 => ?_)
  · exfalso
    have Nc1 : i < 0 := (nI_ltI (a := i) (b := 0) (by omega) (by omega)).mp c1
    omega
  have Nc1 : ¬ (i < 0) := fun q => c1 ((nI_ltI (a := i) (b := 0) (by omega) (by omega)).mpr q)
  refine J_iload_n 1 rfl dX7_callNumbered_4 ?_
  refine J_aload_n 0 rfl dX7_callNumbered_5 ?_
  refine gf_7_147 (n0 _) dX7_callNumbered_6 ?_
  refine J_topeq (nI n) hcl.1 ?_
  refine J_icmp_ge 21 (by decide) dX7_callNumbered_9 (fun c2 => ?_) (fun c2 => ?_)
  · exfalso
    have Nc2 : n ≤ i := (nI_leI (a := n) (b := i) (by omega) (by omega)).mp c2
    omega
  have Nc2 : ¬ (n ≤ i) := fun q => c2 ((nI_leI (a := n) (b := i) (by omega) (by omega)).mpr q)
  refine J_iload_n 1 rfl dX7_callNumbered_12 ?_
  refine J_aload_n 0 rfl dX7_callNumbered_13 ?_
  refine gf_7_39 (n0 _) dX7_callNumbered_14 ?_
  refine J_alen (v := 150) 5 (n5 _) rfl rfl rfl dX7_callNumbered_17 ?_
  refine J_icmp_lt 32 (by decide) dX7_callNumbered_18 (fun c3 => ?_) (fun c3 => ?_)
  rotate_left
  · exfalso
    have Nc3 : ¬ (i < 150) := fun q => c3 ((nI_ltI (a := i) (b := 150) (by omega) (by omega)).mpr q)
    omega
  have Nc3 : i < 150 := (nI_ltI (a := i) (b := 150) (by omega) (by omega)).mp c3
  refine J_aload_n 0 rfl dX7_callNumbered_32 ?_
  refine gf_7_39 (n0 _) dX7_callNumbered_33 ?_
  refine J_iload_n 1 rfl dX7_callNumbered_36 ?_
  refine J_aald i 5 (n5 _) rfl rfl (vp_in_nI (by omega) (by decide)) (nI_toNat (by omega)) dX7_callNumbered_37 ?_
  refine J_topv (v' := .ref (rc i)) (by rw [(hcl.2.2 i hi).1]; rfl) ?_
  refine cv_7_105 (i := 0) (cells' := 0) (slots' := 0) dX7_callNumbered_38 (c_X7_existing_s) ⟨by decide, by decide⟩ rfl rfl (by decide) (by decide) (Nat.le_of_ble_eq_true rfl) (fun _ _ r4 => ?_) (fun _ _ h => h.elim)
  obtain ⟨rfl, rfl⟩ := r4
  refine J_eq (st' := [.ref (rc i)]) rfl rfl rfl ?_
  exact J_areturn rfl (by first | exact Or.inl ⟨_, rfl⟩ | exact Or.inr ⟨_, rfl⟩) (by first | exact Or.inl rfl | exact Or.inr ⟨_, rfl⟩ | exact va_rf_or _) dX7_callNumbered_41 (⟨rfl, rfl⟩) (by omega) (by omega)

set_option maxRecDepth 20000 in
theorem c_X7_callNumbered_x {cy : Nat → ClassId} {S : Nat → Nat → Nat} {I : kI} {L : kL} {R : kRf} {LP : List Nat} {n : Nat} {x : Int32} {rc : Nat → Nat} (hcl : clF I R LP n rc) (hx : ∀ s, s < n → x ≠ nI s) : Con yX7_callNumbered cX7_callNumbered 2 (some (.object "FoghornExchange$RadioCall")) 7 1 6 cy [.ref (ka S 0 0), .int x] (wc cy S I L R LP) kNo (kThr "java/util/NoSuchElementException" (wc cy S I L R LP)) := by
  refine Con_of (by decide +kernel) (Nat.le_of_ble_eq_true rfl) ?_
  refine J_eq (lv' := [(0, .ref (ka S 0 0)), (1, .int x)]) rfl rfl rfl ?_
  have hcl2 := hcl.2.1
  refine J_iload_n 1 rfl dX7_callNumbered_0 ?_
  refine J_if_lt 21 (by decide) dX7_callNumbered_1 (fun c1 => ?_) (fun c1 => ?_)
  · skip
    exact J_throwXW (E := "java/util/NoSuchElementException") (Y0 := "java/lang/RuntimeException") (ix := 13) (rx := prog_22_method_4_code) (ns := ["java/lang/Exception"]) (text := "no such call") (ik := 128) (is := 305) (ic := 132) rfl nse_code exc_NoSuchElementException (by decide +kernel) cl_7_128 ini_NoSuchElementException at_7_132 fitX_NoSuchElementException (⟨rfl, rfl⟩) (by decide) (Nat.le_of_ble_eq_true rfl) (by decide) (by decide) dX7_callNumbered_21 dX7_callNumbered_24 dX7_callNumbered_25 dX7_callNumbered_28 dX7_callNumbered_31
  · skip
    obtain ⟨j, hj, rfl⟩ := nI_of c1
    refine J_iload_n 1 rfl dX7_callNumbered_4 ?_
    refine J_aload_n 0 rfl dX7_callNumbered_5 ?_
    refine gf_7_147 (n0 _) dX7_callNumbered_6 ?_
    refine J_topeq (nI n) hcl.1 ?_
    refine J_icmp_ge 21 (by decide) dX7_callNumbered_9 (fun c2 => ?_) (fun c2 => ?_)
    · have Nc2 : n ≤ j := (nI_leI (a := n) (b := j) (by omega) (by omega)).mp c2
      exact J_throwXW (E := "java/util/NoSuchElementException") (Y0 := "java/lang/RuntimeException") (ix := 13) (rx := prog_22_method_4_code) (ns := ["java/lang/Exception"]) (text := "no such call") (ik := 128) (is := 305) (ic := 132) rfl nse_code exc_NoSuchElementException (by decide +kernel) cl_7_128 ini_NoSuchElementException at_7_132 fitX_NoSuchElementException (⟨rfl, rfl⟩) (by decide) (Nat.le_of_ble_eq_true rfl) (by decide) (by decide) dX7_callNumbered_21 dX7_callNumbered_24 dX7_callNumbered_25 dX7_callNumbered_28 dX7_callNumbered_31
    · have Nc2 : ¬ (n ≤ j) := fun q => c2 ((nI_leI (a := n) (b := j) (by omega) (by omega)).mpr q)
      exact absurd rfl (hx j (by omega))

set_option maxRecDepth 20000 in
theorem c_X7_checkPair_s {cy : Nat → ClassId} {S : Nat → Nat → Nat} {I : kI} {L : kL} {R : kRf} {LP : List Nat} {ns s t : Nat} (hst : stF I ns) (hs : s < ns) (ht : t < ns) (hne : s ≠ t) : Con yX7_checkPair cX7_checkPair 3 none 7 0 0 cy [.ref (ka S 0 0), .int (nI s), .int (nI t)] (wc cy S I L R LP) (kRet none (wc cy S I L R LP)) kF := by
  refine Con_of (by decide +kernel) (Nat.le_of_ble_eq_true rfl) ?_
  refine J_eq (lv' := [(0, .ref (ka S 0 0)), (1, .int (nI s)), (2, .int (nI t))]) rfl rfl rfl ?_
  have hst2 := hst.2
  refine J_aload_n 0 rfl dX7_checkPair_0 ?_
  refine gf_7_10 (n0 _) dX7_checkPair_1 ?_
  refine J_iload_n 1 rfl dX7_checkPair_4 ?_
  refine cv_7_70 (cells' := 0) (slots' := 0) dX7_checkPair_5 (c_X1_numbered_s hst hs) (n1 _) ⟨by decide, by decide⟩ rfl rfl (by decide) (by decide) (Nat.le_of_ble_eq_true rfl) (fun _ _ r1 => ?_) (fun _ _ h => h.elim)
  obtain ⟨rfl, rfl⟩ := r1
  refine J_eq (st' := [.ref (ka S 17 s)]) rfl rfl rfl ?_
  refine J_pop rfl dX7_checkPair_8 ?_
  refine J_aload_n 0 rfl dX7_checkPair_9 ?_
  refine gf_7_10 (n0 _) dX7_checkPair_10 ?_
  refine J_iload_n 2 rfl dX7_checkPair_13 ?_
  refine cv_7_70 (cells' := 0) (slots' := 0) dX7_checkPair_14 (c_X1_numbered_s hst ht) (n1 _) ⟨by decide, by decide⟩ rfl rfl (by decide) (by decide) (Nat.le_of_ble_eq_true rfl) (fun _ _ r2 => ?_) (fun _ _ h => h.elim)
  obtain ⟨rfl, rfl⟩ := r2
  refine J_eq (st' := [.ref (ka S 17 t)]) rfl rfl rfl ?_
  refine J_pop rfl dX7_checkPair_17 ?_
  refine J_iload_n 1 rfl dX7_checkPair_18 ?_
  refine J_iload_n 2 rfl dX7_checkPair_19 ?_
  refine J_icmp_ne 34 (by decide) dX7_checkPair_20 (fun c3 => ?_) (fun c3 => ?_)
  rotate_left
  · exfalso
    have Nc3 : s = t := (nI_eqL (a := s) (b := t) (by omega) (by omega)).mp c3
    omega
  have Nc3 : ¬ (s = t) := fun q => c3 ((nI_eqL (a := s) (b := t) (by omega) (by omega)).mpr q)
  exact J_return rfl dX7_checkPair_34 (⟨rfl, rfl⟩) (by omega) (by omega)

set_option maxRecDepth 20000 in
theorem c_X7_checkPair_e {cy : Nat → ClassId} {S : Nat → Nat → Nat} {I : kI} {L : kL} {R : kRf} {LP : List Nat} {ns s : Nat} (hst : stF I ns) (hs : s < ns) : Con yX7_checkPair cX7_checkPair 3 none 7 1 6 cy [.ref (ka S 0 0), .int (nI s), .int (nI s)] (wc cy S I L R LP) kNo (kThr "java/lang/IllegalArgumentException" (wc cy S I L R LP)) := by
  refine Con_of (by decide +kernel) (Nat.le_of_ble_eq_true rfl) ?_
  refine J_eq (lv' := [(0, .ref (ka S 0 0)), (1, .int (nI s)), (2, .int (nI s))]) rfl rfl rfl ?_
  have hst2 := hst.2
  refine J_aload_n 0 rfl dX7_checkPair_0 ?_
  refine gf_7_10 (n0 _) dX7_checkPair_1 ?_
  refine J_iload_n 1 rfl dX7_checkPair_4 ?_
  refine cv_7_70 (cells' := 0) (slots' := 0) dX7_checkPair_5 (c_X1_numbered_s hst hs) (n1 _) ⟨by decide, by decide⟩ rfl rfl (by decide) (by decide) (Nat.le_of_ble_eq_true rfl) (fun _ _ r1 => ?_) (fun _ _ h => h.elim)
  obtain ⟨rfl, rfl⟩ := r1
  refine J_eq (st' := [.ref (ka S 17 s)]) rfl rfl rfl ?_
  refine J_pop rfl dX7_checkPair_8 ?_
  refine J_aload_n 0 rfl dX7_checkPair_9 ?_
  refine gf_7_10 (n0 _) dX7_checkPair_10 ?_
  refine J_iload_n 2 rfl dX7_checkPair_13 ?_
  refine cv_7_70 (cells' := 0) (slots' := 0) dX7_checkPair_14 (c_X1_numbered_s hst hs) (n1 _) ⟨by decide, by decide⟩ rfl rfl (by decide) (by decide) (Nat.le_of_ble_eq_true rfl) (fun _ _ r2 => ?_) (fun _ _ h => h.elim)
  obtain ⟨rfl, rfl⟩ := r2
  refine J_eq (st' := [.ref (ka S 17 s)]) rfl rfl rfl ?_
  refine J_pop rfl dX7_checkPair_17 ?_
  refine J_iload_n 1 rfl dX7_checkPair_18 ?_
  refine J_iload_n 2 rfl dX7_checkPair_19 ?_
  refine J_icmp_ne 34 (by decide) dX7_checkPair_20 (fun c3 => ?_) (fun c3 => ?_)
  · exfalso
    have Nc3 : ¬ (s = s) := fun q => c3 ((nI_eqL (a := s) (b := s) (by omega) (by omega)).mpr q)
    omega
  have Nc3 : s = s := (nI_eqL (a := s) (b := s) (by omega) (by omega)).mp c3
  exact J_throwW (E := "java/lang/IllegalArgumentException") (text := "both stations are the same") (ik := 47) (is := 298) (ic := 51) exc_IllegalArgumentException (by decide +kernel) cl_7_47 ini_IllegalArgumentException at_7_51 fit_IllegalArgumentException (⟨rfl, rfl⟩) (by decide) (Nat.le_of_ble_eq_true rfl) (by decide) (by decide) dX7_checkPair_23 dX7_checkPair_26 dX7_checkPair_27 dX7_checkPair_30 dX7_checkPair_33

set_option maxRecDepth 20000 in
theorem c_X7_checkPair_x {cy : Nat → ClassId} {S : Nat → Nat → Nat} {I : kI} {L : kL} {R : kRf} {LP : List Nat} {ns : Nat} {x y : Int32} (hst : stF I ns) (hx : ∀ s, s < ns → x ≠ nI s) : Con yX7_checkPair cX7_checkPair 3 none 7 1 6 cy [.ref (ka S 0 0), .int x, .int y] (wc cy S I L R LP) kNo (kThr "java/lang/IndexOutOfBoundsException" (wc cy S I L R LP)) := by
  refine Con_of (by decide +kernel) (Nat.le_of_ble_eq_true rfl) ?_
  refine J_eq (lv' := [(0, .ref (ka S 0 0)), (1, .int x), (2, .int y)]) rfl rfl rfl ?_
  have hst2 := hst.2
  refine J_aload_n 0 rfl dX7_checkPair_0 ?_
  refine gf_7_10 (n0 _) dX7_checkPair_1 ?_
  refine J_iload_n 1 rfl dX7_checkPair_4 ?_
  exact cv_7_70 (cells' := 1) (slots' := 6) dX7_checkPair_5 (c_X1_numbered_x hst hx) (n1 _) ⟨by decide, by decide⟩ rfl rfl (by decide) (by decide) (Nat.le_of_ble_eq_true rfl) (fun _ _ h => h.elim) (fun E9 w9 h9 => by obtain ⟨rfl, rfl⟩ := h9; exact ⟨rfl, rfl⟩)

set_option maxRecDepth 20000 in
theorem c_X7_checkPair_y {cy : Nat → ClassId} {S : Nat → Nat → Nat} {I : kI} {L : kL} {R : kRf} {LP : List Nat} {ns s : Nat} {x : Int32} (hst : stF I ns) (hs : s < ns) (hx : ∀ s, s < ns → x ≠ nI s) : Con yX7_checkPair cX7_checkPair 3 none 7 1 6 cy [.ref (ka S 0 0), .int (nI s), .int x] (wc cy S I L R LP) kNo (kThr "java/lang/IndexOutOfBoundsException" (wc cy S I L R LP)) := by
  refine Con_of (by decide +kernel) (Nat.le_of_ble_eq_true rfl) ?_
  refine J_eq (lv' := [(0, .ref (ka S 0 0)), (1, .int (nI s)), (2, .int x)]) rfl rfl rfl ?_
  have hst2 := hst.2
  refine J_aload_n 0 rfl dX7_checkPair_0 ?_
  refine gf_7_10 (n0 _) dX7_checkPair_1 ?_
  refine J_iload_n 1 rfl dX7_checkPair_4 ?_
  refine cv_7_70 (cells' := 0) (slots' := 0) dX7_checkPair_5 (c_X1_numbered_s hst hs) (n1 _) ⟨by decide, by decide⟩ rfl rfl (by decide) (by decide) (Nat.le_of_ble_eq_true rfl) (fun _ _ r1 => ?_) (fun _ _ h => h.elim)
  obtain ⟨rfl, rfl⟩ := r1
  refine J_eq (st' := [.ref (ka S 17 s)]) rfl rfl rfl ?_
  refine J_pop rfl dX7_checkPair_8 ?_
  refine J_aload_n 0 rfl dX7_checkPair_9 ?_
  refine gf_7_10 (n0 _) dX7_checkPair_10 ?_
  refine J_iload_n 2 rfl dX7_checkPair_13 ?_
  exact cv_7_70 (cells' := 1) (slots' := 6) dX7_checkPair_14 (c_X1_numbered_x hst hx) (n1 _) ⟨by decide, by decide⟩ rfl rfl (by decide) (by decide) (Nat.le_of_ble_eq_true rfl) (fun _ _ h => h.elim) (fun E9 w9 h9 => by obtain ⟨rfl, rfl⟩ := h9; exact ⟨rfl, rfl⟩)

set_option maxRecDepth 20000 in
theorem c_X7_checkChannel_s {cy : Nat → ClassId} {w : va_W} {h : Nat} (hh : h < 3) : Con yX7_checkChannel cX7_checkChannel 1 none 6 0 0 cy [.int (nI h)] w (kRet none w) kF := by
  refine Con_of (by decide +kernel) (Nat.le_of_ble_eq_true rfl) ?_
  refine J_eq (lv' := [(0, .int (nI h))]) rfl rfl rfl ?_
  refine J_iload_n 0 rfl dX7_checkChannel_0 ?_
  refine J_if_lt 9 (by decide) dX7_checkChannel_1 (fun c1 => ?_) (fun c1 => ?_)
  · exfalso
    have Nc1 : h < 0 := (nI_ltI (a := h) (b := 0) (by omega) (by omega)).mp c1
    omega
  have Nc1 : ¬ (h < 0) := fun q => c1 ((nI_ltI (a := h) (b := 0) (by omega) (by omega)).mpr q)
  refine J_iload_n 0 rfl dX7_checkChannel_4 ?_
  refine J_iconst (v := 3) (by decide) dX7_checkChannel_5 ?_
  refine J_icmp_lt 20 (by decide) dX7_checkChannel_6 (fun c2 => ?_) (fun c2 => ?_)
  rotate_left
  · exfalso
    have Nc2 : ¬ (h < 3) := fun q => c2 ((nI_ltI (a := h) (b := 3) (by omega) (by omega)).mpr q)
    omega
  have Nc2 : h < 3 := (nI_ltI (a := h) (b := 3) (by omega) (by omega)).mp c2
  exact J_return rfl dX7_checkChannel_20 (⟨rfl, rfl⟩) (by omega) (by omega)

set_option maxRecDepth 20000 in
theorem c_X7_checkChannel_x {cy : Nat → ClassId} {w : va_W} {x : Int32} (hx : ∀ s, s < 3 → x ≠ nI s) : Con yX7_checkChannel cX7_checkChannel 1 none 6 1 6 cy [.int x] w kNo (kThr "java/lang/IndexOutOfBoundsException" w) := by
  refine Con_of (by decide +kernel) (Nat.le_of_ble_eq_true rfl) ?_
  refine J_eq (lv' := [(0, .int x)]) rfl rfl rfl ?_
  refine J_iload_n 0 rfl dX7_checkChannel_0 ?_
  refine J_if_lt 9 (by decide) dX7_checkChannel_1 (fun c1 => ?_) (fun c1 => ?_)
  · skip
    exact J_throwW (E := "java/lang/IndexOutOfBoundsException") (text := "no such channel") (ik := 300) (is := 302) (ic := 304) exc_IndexOutOfBoundsException (by decide +kernel) cl_7_300 ini_IndexOutOfBoundsException at_7_304 fit_IndexOutOfBoundsException (⟨rfl, rfl⟩) (by decide) (Nat.le_of_ble_eq_true rfl) (by decide) (by decide) dX7_checkChannel_9 dX7_checkChannel_12 dX7_checkChannel_13 dX7_checkChannel_16 dX7_checkChannel_19
  · skip
    obtain ⟨j, hj, rfl⟩ := nI_of c1
    refine J_iload_n 0 rfl dX7_checkChannel_4 ?_
    refine J_iconst (v := 3) (by decide) dX7_checkChannel_5 ?_
    refine J_icmp_lt 20 (by decide) dX7_checkChannel_6 (fun c2 => ?_) (fun c2 => ?_)
    · have Nc2 : j < 3 := (nI_ltI (a := j) (b := 3) (by omega) (by omega)).mp c2
      exact absurd rfl (hx j (by omega))
    · have Nc2 : ¬ (j < 3) := fun q => c2 ((nI_ltI (a := j) (b := 3) (by omega) (by omega)).mpr q)
      exact J_throwW (E := "java/lang/IndexOutOfBoundsException") (text := "no such channel") (ik := 300) (is := 302) (ic := 304) exc_IndexOutOfBoundsException (by decide +kernel) cl_7_300 ini_IndexOutOfBoundsException at_7_304 fit_IndexOutOfBoundsException (⟨rfl, rfl⟩) (by decide) (Nat.le_of_ble_eq_true rfl) (by decide) (by decide) dX7_checkChannel_9 dX7_checkChannel_12 dX7_checkChannel_13 dX7_checkChannel_16 dX7_checkChannel_19

