/-! raise, refused; the line by counting; isInOrder -/
theorem wght_le {u : Int32} (hu : ¬ (u = 100 ∨ u = 117 ∨ u = 115)) : wghtF u = -1 ∨ wghtF u = 0 := by
  unfold wghtF
  rw [if_neg (fun h => hu (Or.inl h)), if_neg (fun h => hu (Or.inr (Or.inl h))), if_neg (fun h => hu (Or.inr (Or.inr h)))]
  split
  · exact Or.inr rfl
  · exact Or.inl rfl

set_option maxRecDepth 20000 in
set_option maxHeartbeats 1000000 in
theorem c_X7_raise_x {cy : Nat → ClassId} {S : Nat → Nat → Nat} {I : kI} {L : kL} {R : kRf} {LP : List Nat} {m : Mu} {rc : Nat → Nat} {ln qu : List Nat} {lg B : Nat} {x u : Int32} (hR : Rel m I L R LP rc ln qu lg) (hI : Inv m B) (hB : B < 2 ^ 30) (hlg : lg < 2 ^ 30) (hx : ∀ s, s < mC m → x ≠ nI s) : Con yX7_raise cX7_raise 6 (some .char) 8 1 6 cy [.ref (ka S 0 0), .int x, .int u] (wc cy S I L R LP) kNo (kTX "java/util/NoSuchElementException" cy S LP rc m) := by
  obtain ⟨hS, hC, hH, hL, hG, hT⟩ := hR
  have hR : Rel m I L R LP rc ln qu lg := ⟨hS, hC, hH, hL, hG, hT⟩
  have hRc := hC.2.2
  have hkk := hI.2.2.2.1
  have hh := hI.2.2.2.2.1
  refine Con_of (by decide +kernel) (Nat.le_of_ble_eq_true rfl) ?_
  refine J_eq (lv' := [(0, .ref (ka S 0 0)), (1, .int x), (2, .int u)]) rfl rfl rfl ?_
  refine J_aload_n 0 rfl dX7_raise_0 ?_
  refine J_iload_n 1 rfl dX7_raise_1 ?_
  exact cv_7_153 (cells' := 1) (slots' := 6) dX7_raise_2 (c_X7_callNumbered_x hC.2.1 hx) (n0 _) ⟨by decide, by decide⟩ rfl rfl (by decide) (by decide) (Nat.le_of_ble_eq_true rfl) (fun _ _ h => h.elim) (fun E9 w9 h9 => by obtain ⟨rfl, rfl⟩ := h9; exact ⟨rfl, I, L, R, ln, qu, lg, rfl, hR, by omega⟩)

set_option maxRecDepth 20000 in
set_option maxHeartbeats 1000000 in
theorem c_X7_raise_u {cy : Nat → ClassId} {S : Nat → Nat → Nat} {I : kI} {L : kL} {R : kRf} {LP : List Nat} {m : Mu} {rc : Nat → Nat} {ln qu : List Nat} {lg B : Nat} {i : Nat} {u : Int32} (hR : Rel m I L R LP rc ln qu lg) (hI : Inv m B) (hB : B < 2 ^ 30) (hlg : lg < 2 ^ 30) (hi : i < mC m) (hu : ¬ (u = 100 ∨ u = 117 ∨ u = 115)) : Con yX7_raise cX7_raise 6 (some .char) 8 1 6 cy [.ref (ka S 0 0), .int (nI i), .int u] (wc cy S I L R LP) kNo (kTX "java/lang/IllegalArgumentException" cy S LP rc m) := by
  obtain ⟨hS, hC, hH, hL, hG, hT⟩ := hR
  have hR : Rel m I L R LP rc ln qu lg := ⟨hS, hC, hH, hL, hG, hT⟩
  have hRc := hC.2.2
  have hkk := hI.2.2.2.1
  have hh := hI.2.2.2.2.1
  obtain ⟨a0, a1, a2, a3, a4, a5, a6, a7, a8, a9⟩ := (hRc i hi).1
  have ha : rc i ∈ LP := (hC.2.1.2.2 i hi).2
  have hz := wght_le hu
  refine Con_of (by decide +kernel) (Nat.le_of_ble_eq_true rfl) ?_
  refine J_eq (lv' := [(0, .ref (ka S 0 0)), (1, .int (nI i)), (2, .int u)]) rfl rfl rfl ?_
  refine J_aload_n 0 rfl dX7_raise_0 ?_
  refine J_iload_n 1 rfl dX7_raise_1 ?_
  refine cv_7_153 (cells' := 0) (slots' := 0) dX7_raise_2 (c_X7_callNumbered_s hC.2.1 hi) (n0 _) ⟨by decide, by decide⟩ rfl rfl (by decide) (by decide) (Nat.le_of_ble_eq_true rfl) (fun _ _ r1 => ?_) (fun _ _ h => h.elim)
  obtain ⟨rfl, rfl⟩ := r1
  refine J_eq (st' := [.ref (rc i)]) rfl rfl rfl ?_
  refine J_astore_n (lv' := [(0, .ref (ka S 0 0)), (1, .int (nI i)), (2, .int u), (3, .ref (rc i))]) (by decide) rfl dX7_raise_5 ?_
  refine J_iload_n 2 rfl dX7_raise_6 ?_
  refine cv_7_136 (i := 0) (cells' := 0) (slots' := 0) dX7_raise_7 (c_X7_weightOf) ⟨by decide, by decide⟩ rfl rfl (by decide) (by decide) (Nat.le_of_ble_eq_true rfl) (fun _ _ r2 => ?_) (fun _ _ h => h.elim)
  obtain ⟨rfl, rfl⟩ := r2
  refine J_eq (st' := [.int (wghtF u)]) rfl rfl rfl ?_
  refine J_istore (lv' := [(0, .ref (ka S 0 0)), (1, .int (nI i)), (2, .int u), (3, .ref (rc i)), (4, .int (wghtF u))]) (by decide) rfl dX7_raise_10 ?_
  refine J_iload 4 rfl dX7_raise_12 ?_
  refine J_iconst (v := (-1)) (by decide) dX7_raise_14 ?_
  refine J_icmp_eq 23 (by decide) dX7_raise_15 (fun c3 => ?_) (fun c3 => ?_)
  · skip
    exact J_throw (E := "java/lang/IllegalArgumentException") (text := "no such urgency to raise to") (ik := 47) (is := 181) (ic := 51) exc_IllegalArgumentException (by decide +kernel) cl_7_47 ini_IllegalArgumentException at_7_51 fit_IllegalArgumentException (⟨rfl, I, L, R, ln, qu, lg, rfl, hR, by omega⟩) (by decide) (Nat.le_of_ble_eq_true rfl) (by decide) (by decide) dX7_raise_23 dX7_raise_26 dX7_raise_27 dX7_raise_29 dX7_raise_32
  · skip
    refine J_iload 4 rfl dX7_raise_18 ?_
    refine J_if_ne 33 (by decide) dX7_raise_20 (fun c4 => ?_) (fun c4 => ?_)
    · exfalso
      exact c4 (hz.resolve_left (by assumption))
    exact J_throw (E := "java/lang/IllegalArgumentException") (text := "no such urgency to raise to") (ik := 47) (is := 181) (ic := 51) exc_IllegalArgumentException (by decide +kernel) cl_7_47 ini_IllegalArgumentException at_7_51 fit_IllegalArgumentException (⟨rfl, I, L, R, ln, qu, lg, rfl, hR, by omega⟩) (by decide) (Nat.le_of_ble_eq_true rfl) (by decide) (by decide) dX7_raise_23 dX7_raise_26 dX7_raise_27 dX7_raise_29 dX7_raise_32

set_option maxRecDepth 20000 in
set_option maxHeartbeats 1000000 in
theorem c_X7_raise_o {cy : Nat → ClassId} {S : Nat → Nat → Nat} {I : kI} {L : kL} {R : kRf} {LP : List Nat} {m : Mu} {rc : Nat → Nat} {ln qu : List Nat} {lg B : Nat} {i : Nat} {u : Int32} (hR : Rel m I L R LP rc ln qu lg) (hI : Inv m B) (hB : B < 2 ^ 30) (hlg : lg < 2 ^ 30) (hi : i < mC m) (hu : u = 100 ∨ u = 117 ∨ u = 115) (h1 : m.1 55 i ≠ 119) (h2 : m.1 55 i ≠ 115) : Con yX7_raise cX7_raise 6 (some .char) 8 1 6 cy [.ref (ka S 0 0), .int (nI i), .int u] (wc cy S I L R LP) kNo (kTX "java/lang/IllegalStateException" cy S LP rc m) := by
  obtain ⟨hS, hC, hH, hL, hG, hT⟩ := hR
  have hR : Rel m I L R LP rc ln qu lg := ⟨hS, hC, hH, hL, hG, hT⟩
  have hRc := hC.2.2
  have hkk := hI.2.2.2.1
  have hh := hI.2.2.2.2.1
  obtain ⟨a0, a1, a2, a3, a4, a5, a6, a7, a8, a9⟩ := (hRc i hi).1
  have ha : rc i ∈ LP := (hC.2.1.2.2 i hi).2
  refine Con_of (by decide +kernel) (Nat.le_of_ble_eq_true rfl) ?_
  refine J_eq (lv' := [(0, .ref (ka S 0 0)), (1, .int (nI i)), (2, .int u)]) rfl rfl rfl ?_
  refine J_aload_n 0 rfl dX7_raise_0 ?_
  refine J_iload_n 1 rfl dX7_raise_1 ?_
  refine cv_7_153 (cells' := 0) (slots' := 0) dX7_raise_2 (c_X7_callNumbered_s hC.2.1 hi) (n0 _) ⟨by decide, by decide⟩ rfl rfl (by decide) (by decide) (Nat.le_of_ble_eq_true rfl) (fun _ _ r1 => ?_) (fun _ _ h => h.elim)
  obtain ⟨rfl, rfl⟩ := r1
  refine J_eq (st' := [.ref (rc i)]) rfl rfl rfl ?_
  refine J_astore_n (lv' := [(0, .ref (ka S 0 0)), (1, .int (nI i)), (2, .int u), (3, .ref (rc i))]) (by decide) rfl dX7_raise_5 ?_
  refine J_iload_n 2 rfl dX7_raise_6 ?_
  refine cv_7_136 (i := 0) (cells' := 0) (slots' := 0) dX7_raise_7 (c_X7_weightOf) ⟨by decide, by decide⟩ rfl rfl (by decide) (by decide) (Nat.le_of_ble_eq_true rfl) (fun _ _ r2 => ?_) (fun _ _ h => h.elim)
  obtain ⟨rfl, rfl⟩ := r2
  refine J_eq (st' := [.int (wghtF u)]) rfl rfl rfl ?_
  refine J_istore (lv' := [(0, .ref (ka S 0 0)), (1, .int (nI i)), (2, .int u), (3, .ref (rc i)), (4, .int (wghtF u))]) (by decide) rfl dX7_raise_10 ?_
  refine J_iload 4 rfl dX7_raise_12 ?_
  refine J_iconst (v := (-1)) (by decide) dX7_raise_14 ?_
  refine J_icmp_eq 23 (by decide) dX7_raise_15 (fun c3 => ?_) (fun c3 => ?_)
  · exfalso
    exact (wght_gt hu).2 c3
  refine J_iload 4 rfl dX7_raise_18 ?_
  refine J_if_ne 33 (by decide) dX7_raise_20 (fun c4 => ?_) (fun c4 => ?_)
  rotate_left
  · exfalso
    exact (wght_gt hu).1 c4
  refine J_aload_n 3 rfl dX7_raise_33 ?_
  refine cv_7_156 (cells' := 0) (slots' := 0) dX7_raise_34 (c_X5_isOpen ha) (n20 (by assumption)) ⟨by decide, by decide⟩ rfl rfl (by decide) (by decide) (Nat.le_of_ble_eq_true rfl) (fun _ _ r5 => ?_) (fun _ _ h => h.elim)
  obtain ⟨rfl, rfl⟩ := r5
  refine J_eq (st' := [.int (kb (openF I (rc i)))]) rfl rfl rfl ?_
  refine J_topeq 0 (by unfold openF; rw [a7, decide_eq_false h1, decide_eq_false h2]; rfl) ?_
  refine J_if_eq 49 (by decide) dX7_raise_37 (fun c6 => ?_) (fun c6 => ?_)
  rotate_left
  · exact absurd (by decide) c6
  exact J_throw (E := "java/lang/IllegalStateException") (text := "the call is not open, or its urgency is not less") (ik := 58) (is := 186) (ic := 62) exc_IllegalStateException (by decide +kernel) cl_7_58 ini_IllegalStateException at_7_62 fit_IllegalStateException (⟨rfl, I, L, R, ln, qu, lg, rfl, hR, by omega⟩) (by decide) (Nat.le_of_ble_eq_true rfl) (by decide) (by decide) dX7_raise_49 dX7_raise_52 dX7_raise_53 dX7_raise_55 dX7_raise_58

set_option maxRecDepth 20000 in
set_option maxHeartbeats 1000000 in
theorem c_X7_raise_l {cy : Nat → ClassId} {S : Nat → Nat → Nat} {I : kI} {L : kL} {R : kRf} {LP : List Nat} {m : Mu} {rc : Nat → Nat} {ln qu : List Nat} {lg B : Nat} {i : Nat} {u : Int32} (hR : Rel m I L R LP rc ln qu lg) (hI : Inv m B) (hB : B < 2 ^ 30) (hlg : lg < 2 ^ 30) (hi : i < mC m) (hu : u = 100 ∨ u = 117 ∨ u = 115) (hop : m.1 55 i = 119 ∨ m.1 55 i = 115) (hlt : ¬ mRank m i < wghtF u) : Con yX7_raise cX7_raise 6 (some .char) 8 1 6 cy [.ref (ka S 0 0), .int (nI i), .int u] (wc cy S I L R LP) kNo (kTX "java/lang/IllegalStateException" cy S LP rc m) := by
  obtain ⟨hS, hC, hH, hL, hG, hT⟩ := hR
  have hR : Rel m I L R LP rc ln qu lg := ⟨hS, hC, hH, hL, hG, hT⟩
  have hRc := hC.2.2
  have hkk := hI.2.2.2.1
  have hh := hI.2.2.2.2.1
  obtain ⟨a0, a1, a2, a3, a4, a5, a6, a7, a8, a9⟩ := (hRc i hi).1
  have ha : rc i ∈ LP := (hC.2.1.2.2 i hi).2
  refine Con_of (by decide +kernel) (Nat.le_of_ble_eq_true rfl) ?_
  refine J_eq (lv' := [(0, .ref (ka S 0 0)), (1, .int (nI i)), (2, .int u)]) rfl rfl rfl ?_
  refine J_aload_n 0 rfl dX7_raise_0 ?_
  refine J_iload_n 1 rfl dX7_raise_1 ?_
  refine cv_7_153 (cells' := 0) (slots' := 0) dX7_raise_2 (c_X7_callNumbered_s hC.2.1 hi) (n0 _) ⟨by decide, by decide⟩ rfl rfl (by decide) (by decide) (Nat.le_of_ble_eq_true rfl) (fun _ _ r1 => ?_) (fun _ _ h => h.elim)
  obtain ⟨rfl, rfl⟩ := r1
  refine J_eq (st' := [.ref (rc i)]) rfl rfl rfl ?_
  refine J_astore_n (lv' := [(0, .ref (ka S 0 0)), (1, .int (nI i)), (2, .int u), (3, .ref (rc i))]) (by decide) rfl dX7_raise_5 ?_
  refine J_iload_n 2 rfl dX7_raise_6 ?_
  refine cv_7_136 (i := 0) (cells' := 0) (slots' := 0) dX7_raise_7 (c_X7_weightOf) ⟨by decide, by decide⟩ rfl rfl (by decide) (by decide) (Nat.le_of_ble_eq_true rfl) (fun _ _ r2 => ?_) (fun _ _ h => h.elim)
  obtain ⟨rfl, rfl⟩ := r2
  refine J_eq (st' := [.int (wghtF u)]) rfl rfl rfl ?_
  refine J_istore (lv' := [(0, .ref (ka S 0 0)), (1, .int (nI i)), (2, .int u), (3, .ref (rc i)), (4, .int (wghtF u))]) (by decide) rfl dX7_raise_10 ?_
  refine J_iload 4 rfl dX7_raise_12 ?_
  refine J_iconst (v := (-1)) (by decide) dX7_raise_14 ?_
  refine J_icmp_eq 23 (by decide) dX7_raise_15 (fun c3 => ?_) (fun c3 => ?_)
  · exfalso
    exact (wght_gt hu).2 c3
  refine J_iload 4 rfl dX7_raise_18 ?_
  refine J_if_ne 33 (by decide) dX7_raise_20 (fun c4 => ?_) (fun c4 => ?_)
  rotate_left
  · exfalso
    exact (wght_gt hu).1 c4
  refine J_aload_n 3 rfl dX7_raise_33 ?_
  refine cv_7_156 (cells' := 0) (slots' := 0) dX7_raise_34 (c_X5_isOpen ha) (n20 (by assumption)) ⟨by decide, by decide⟩ rfl rfl (by decide) (by decide) (Nat.le_of_ble_eq_true rfl) (fun _ _ r5 => ?_) (fun _ _ h => h.elim)
  obtain ⟨rfl, rfl⟩ := r5
  refine J_eq (st' := [.int (kb (openF I (rc i)))]) rfl rfl rfl ?_
  refine J_topeq 1 (by unfold openF; rw [a7]; rcases hop with h | h <;> rw [h] <;> rfl) ?_
  refine J_if_eq 49 (by decide) dX7_raise_37 (fun c6 => ?_) (fun c6 => ?_)
  · exact absurd c6 (by decide)
  refine J_aload_n 3 rfl dX7_raise_40 ?_
  refine gf_7_183 (n20 (by assumption)) dX7_raise_41 ?_
  refine J_topeq (mRank m i) (by exact a5) ?_
  refine J_iload 4 rfl dX7_raise_44 ?_
  refine J_icmp_lt 59 (by decide) dX7_raise_46 (fun c7 => ?_) (fun c7 => ?_)
  · exfalso
    exact hlt c7
  exact J_throw (E := "java/lang/IllegalStateException") (text := "the call is not open, or its urgency is not less") (ik := 58) (is := 186) (ic := 62) exc_IllegalStateException (by decide +kernel) cl_7_58 ini_IllegalStateException at_7_62 fit_IllegalStateException (⟨rfl, I, L, R, ln, qu, lg, rfl, hR, by omega⟩) (by decide) (Nat.le_of_ble_eq_true rfl) (by decide) (by decide) dX7_raise_49 dX7_raise_52 dX7_raise_53 dX7_raise_55 dX7_raise_58

