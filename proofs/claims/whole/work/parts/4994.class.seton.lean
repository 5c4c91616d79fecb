/-! the public calls that change: setOn -/
section SO
variable {m : Mu} {I : kI} {L : kL} {R : kRf} {LP : List Nat} {rc : Nat → Nat} {ln qu : List Nat} {lg B : Nat}
def soM (m : Mu) (s : Nat) (b : Bool) : Mu := ms m 43 s (if b then 0 else 1)
theorem rel_so {s : Nat} {b : Bool} (hR : Rel m I L R LP rc ln qu lg) (hs : s < mS m) : Rel (soM m s b) (ku I 17 s 2 (kb b)) L R LP rc ln qu lg := by
  obtain ⟨⟨s1, s2, s3, s4⟩, hC, hH, hL, hG, hT⟩ := hR
  refine ⟨⟨s1, s2, fun x hx => ?_, fun x hx => ?_⟩, hC, hH, hL, hG, hT⟩
  · obtain ⟨p, q, r⟩ := s3 x hx
    simp [ku, soM, ms]
    exact ⟨p, q, r⟩
  · obtain ⟨p, q, r⟩ := s4 x hx
    by_cases e : x = s
    · subst e; cases b <;> simp [ku, soM, ms, p, q, kb]
    · simp [ku, soM, ms, e, p, q, r]
theorem inv_so {s : Nat} {b : Bool} (hI : Inv m B) (hs : s < mS m) : Inv (soM m s b) B := by
  obtain ⟨a, b, c, d, e1, f, g, i, j⟩ := hI
  refine ⟨a, b, c, d, e1, f, g, ⟨i.1, fun x hx => ?_, i.2.2⟩, j⟩
  have hx : mS m ≤ x := hx
  have w : x ≠ s := by omega
  unfold soM
  rw [ms_j _ _ _ w]; exact i.2.1 x hx
end SO

set_option maxRecDepth 20000 in
set_option maxHeartbeats 1000000 in
theorem c_X7_setOn_1n {cy : Nat → ClassId} {S : Nat → Nat → Nat} {I : kI} {L : kL} {R : kRf} {LP : List Nat} {m : Mu} {rc : Nat → Nat} {ln qu : List Nat} {lg B : Nat} {s : Nat} (hR : Rel m I L R LP rc ln qu lg) (hI : Inv m B) (hB : B + 4100 < 2 ^ 30) (hlg : lg < 2 ^ 30) (hs : s < mS m) (hm : mHold m (nI s) = none) : Con yX7_setOn cX7_setOn 6 (some .boolean) 11 0 0 cy [.ref (ka S 0 0), .int (nI s), .int 1] (wc cy S I L R LP) (fun r w' => r = some (.int (if m.1 43 s = 0 then 1 else 0)) ∧ RelX cy S LP rc (mSpeak (soM m s true)) w') kF := by
  obtain ⟨hS, hC, hH, hL, hG, hT⟩ := hR
  have hR : Rel m I L R LP rc ln qu lg := ⟨hS, hC, hH, hL, hG, hT⟩
  have hRc := hC.2.2
  have hkk := hI.2.2.2.1
  have hh := hI.2.2.2.2.1
  have hst := hS.2.1
  have hst2 := hst.2
  have hs10 : s < 10 := by omega
  obtain ⟨g0, g1, g2⟩ := hS.2.2.2 s hs
  obtain ⟨g3, g4, g5⟩ := hS.2.2.1 s hs10
  have hnr := nar_on (m.1 43 s = 0)
  have hR1 := rel_so (b := true) hR hs
  have hI1 := inv_so (b := true) hI hs
  have hho := hold_eq hR1.2.1 hR1.2.2.1 hI1.2.2.2.2.1 (s := s) (by omega)
  rw [show mHold (soM m s true) (nI s) = mHold m (nI s) from rfl] at hho
  rw [hm] at hho
  refine Con_of (by decide +kernel) (Nat.le_of_ble_eq_true rfl) ?_
  refine J_eq (lv' := [(0, .ref (ka S 0 0)), (1, .int (nI s)), (2, .int 1)]) rfl rfl rfl ?_
  refine J_aload_n 0 rfl dX7_setOn_0 ?_
  refine gf_7_10 (n0 _) dX7_setOn_1 ?_
  refine J_iload_n 1 rfl dX7_setOn_4 ?_
  refine cv_7_70 (cells' := 0) (slots' := 0) dX7_setOn_5 (c_X1_numbered_s hst hs) (n1 _) ⟨by decide, by decide⟩ rfl rfl (by decide) (by decide) (Nat.le_of_ble_eq_true rfl) (fun _ _ r1 => ?_) (fun _ _ h => h.elim)
  obtain ⟨rfl, rfl⟩ := r1
  refine J_eq (st' := [.ref (ka S 17 s)]) rfl rfl rfl ?_
  refine J_astore_n (lv' := [(0, .ref (ka S 0 0)), (1, .int (nI s)), (2, .int 1), (3, .ref (ka S 17 s))]) (by decide) rfl dX7_setOn_8 ?_
  refine J_aload_n 3 rfl dX7_setOn_9 ?_
  refine gf_7_82 (n17 _ (by omega)) dX7_setOn_10 ?_
  refine J_topeq (if m.1 43 s = 0 then 1 else 0) (by exact g2) ?_
  refine J_istore (lv' := [(0, .ref (ka S 0 0)), (1, .int (nI s)), (2, .int 1), (3, .ref (ka S 17 s)), (4, .int (if m.1 43 s = 0 then 1 else 0))]) (by decide) rfl dX7_setOn_13 ?_
  refine J_aload_n 3 rfl dX7_setOn_15 ?_
  refine J_iload_n 2 rfl dX7_setOn_16 ?_
  refine pf_7_82 (by first | assumption | decide | simp) (by first | assumption | decide | simp) (n17 _ (by omega)) dX7_setOn_17 ?_
  refine J_aload_n 0 rfl dX7_setOn_20 ?_
  refine gf_7_26 (n0 _) dX7_setOn_21 ?_
  refine J_iload_n 1 rfl dX7_setOn_24 ?_
  refine cv_7_86 (cells' := 0) (slots' := 0) dX7_setOn_25 (c_X0_holderOf (I := (ku I 17 s 2 1)) (s := nI s) (hH.inLP hC)) (n3 _) ⟨by decide, by decide⟩ rfl rfl (by decide) (by decide) (Nat.le_of_ble_eq_true rfl) (fun _ _ r2 => ?_) (fun _ _ h => h.elim)
  obtain ⟨rfl, rfl⟩ := r2
  refine J_eq (st' := [va_rf (holdF (ku I 17 s 2 1) R (1 <<< (nI s &&& 31)))]) rfl rfl rfl ?_
  refine J_topv (v' := .null) (by first | rfl | (exact (congrArg va_rf hho))) ?_
  refine J_astoreN (lv' := [(0, .ref (ka S 0 0)), (1, .int (nI s)), (2, .int 1), (3, .ref (ka S 17 s)), (4, .int (if m.1 43 s = 0 then 1 else 0)), (5, .null)]) (by decide) rfl dX7_setOn_28 ?_
  refine J_iload_n 2 rfl dX7_setOn_30 ?_
  refine J_if_ne 45 (by decide) dX7_setOn_31 (fun c3 => ?_) (fun c3 => ?_)
  rotate_left
  · exact absurd c3 (by decide)
  refine J_aload_n 0 rfl dX7_setOn_45 ?_
  refine cv_7_67 (cells' := 0) (slots' := 0) dX7_setOn_46 (c_X7_letSpeak hR1 hI1 (by omega) hlg) (n0 _) ⟨by decide, by decide⟩ rfl rfl (by decide) (by decide) (Nat.le_of_ble_eq_true rfl) (fun _ _ r4 => ?_) (fun _ _ h => h.elim)
  obtain ⟨rfl, I4, L4, R4, ln4, qu4, lg4, rfl, hR4, hl4⟩ := r4
  refine J_eq (st' := []) rfl rfl rfl ?_
  refine J_iload 4 rfl dX7_setOn_49 ?_
  exact J_ireturn rfl (by first | rfl | assumption | simp [kb_nar]) dX7_setOn_51 (⟨rfl, I4, L4, R4, ln4, qu4, lg4, rfl, hR4, hl4⟩) (by omega) (by omega)

set_option maxRecDepth 20000 in
set_option maxHeartbeats 1000000 in
theorem c_X7_setOn_1c {cy : Nat → ClassId} {S : Nat → Nat → Nat} {I : kI} {L : kL} {R : kRf} {LP : List Nat} {m : Mu} {rc : Nat → Nat} {ln qu : List Nat} {lg B : Nat} {s : Nat} {c : Nat} (hR : Rel m I L R LP rc ln qu lg) (hI : Inv m B) (hB : B + 4100 < 2 ^ 30) (hlg : lg < 2 ^ 30) (hs : s < mS m) (hm : mHold m (nI s) = some c) : Con yX7_setOn cX7_setOn 6 (some .boolean) 11 0 0 cy [.ref (ka S 0 0), .int (nI s), .int 1] (wc cy S I L R LP) (fun r w' => r = some (.int (if m.1 43 s = 0 then 1 else 0)) ∧ RelX cy S LP rc (mSpeak (soM m s true)) w') kF := by
  obtain ⟨hS, hC, hH, hL, hG, hT⟩ := hR
  have hR : Rel m I L R LP rc ln qu lg := ⟨hS, hC, hH, hL, hG, hT⟩
  have hRc := hC.2.2
  have hkk := hI.2.2.2.1
  have hh := hI.2.2.2.2.1
  have hst := hS.2.1
  have hst2 := hst.2
  have hs10 : s < 10 := by omega
  obtain ⟨g0, g1, g2⟩ := hS.2.2.2 s hs
  obtain ⟨g3, g4, g5⟩ := hS.2.2.1 s hs10
  have hnr := nar_on (m.1 43 s = 0)
  have hR1 := rel_so (b := true) hR hs
  have hI1 := inv_so (b := true) hI hs
  have hho := hold_eq hR1.2.1 hR1.2.2.1 hI1.2.2.2.2.1 (s := s) (by omega)
  rw [show mHold (soM m s true) (nI s) = mHold m (nI s) from rfl] at hho
  rw [hm] at hho
  have hc := ((mHold_iff hh (by omega)).mp hm).1
  have ha : rc c ∈ LP := (hC.2.1.2.2 c hc).2
  refine Con_of (by decide +kernel) (Nat.le_of_ble_eq_true rfl) ?_
  refine J_eq (lv' := [(0, .ref (ka S 0 0)), (1, .int (nI s)), (2, .int 1)]) rfl rfl rfl ?_
  refine J_aload_n 0 rfl dX7_setOn_0 ?_
  refine gf_7_10 (n0 _) dX7_setOn_1 ?_
  refine J_iload_n 1 rfl dX7_setOn_4 ?_
  refine cv_7_70 (cells' := 0) (slots' := 0) dX7_setOn_5 (c_X1_numbered_s hst hs) (n1 _) ⟨by decide, by decide⟩ rfl rfl (by decide) (by decide) (Nat.le_of_ble_eq_true rfl) (fun _ _ r1 => ?_) (fun _ _ h => h.elim)
  obtain ⟨rfl, rfl⟩ := r1
  refine J_eq (st' := [.ref (ka S 17 s)]) rfl rfl rfl ?_
  refine J_astore_n (lv' := [(0, .ref (ka S 0 0)), (1, .int (nI s)), (2, .int 1), (3, .ref (ka S 17 s))]) (by decide) rfl dX7_setOn_8 ?_
  refine J_aload_n 3 rfl dX7_setOn_9 ?_
  refine gf_7_82 (n17 _ (by omega)) dX7_setOn_10 ?_
  refine J_topeq (if m.1 43 s = 0 then 1 else 0) (by exact g2) ?_
  refine J_istore (lv' := [(0, .ref (ka S 0 0)), (1, .int (nI s)), (2, .int 1), (3, .ref (ka S 17 s)), (4, .int (if m.1 43 s = 0 then 1 else 0))]) (by decide) rfl dX7_setOn_13 ?_
  refine J_aload_n 3 rfl dX7_setOn_15 ?_
  refine J_iload_n 2 rfl dX7_setOn_16 ?_
  refine pf_7_82 (by first | assumption | decide | simp) (by first | assumption | decide | simp) (n17 _ (by omega)) dX7_setOn_17 ?_
  refine J_aload_n 0 rfl dX7_setOn_20 ?_
  refine gf_7_26 (n0 _) dX7_setOn_21 ?_
  refine J_iload_n 1 rfl dX7_setOn_24 ?_
  refine cv_7_86 (cells' := 0) (slots' := 0) dX7_setOn_25 (c_X0_holderOf (I := (ku I 17 s 2 1)) (s := nI s) (hH.inLP hC)) (n3 _) ⟨by decide, by decide⟩ rfl rfl (by decide) (by decide) (Nat.le_of_ble_eq_true rfl) (fun _ _ r2 => ?_) (fun _ _ h => h.elim)
  obtain ⟨rfl, rfl⟩ := r2
  refine J_eq (st' := [va_rf (holdF (ku I 17 s 2 1) R (1 <<< (nI s &&& 31)))]) rfl rfl rfl ?_
  refine J_topv (v' := .ref (rc c)) (by first | rfl | (exact (congrArg va_rf hho))) ?_
  refine J_astore (lv' := [(0, .ref (ka S 0 0)), (1, .int (nI s)), (2, .int 1), (3, .ref (ka S 17 s)), (4, .int (if m.1 43 s = 0 then 1 else 0)), (5, .ref (rc c))]) (by decide) rfl dX7_setOn_28 ?_
  refine J_iload_n 2 rfl dX7_setOn_30 ?_
  refine J_if_ne 45 (by decide) dX7_setOn_31 (fun c3 => ?_) (fun c3 => ?_)
  rotate_left
  · exact absurd c3 (by decide)
  refine J_aload_n 0 rfl dX7_setOn_45 ?_
  refine cv_7_67 (cells' := 0) (slots' := 0) dX7_setOn_46 (c_X7_letSpeak hR1 hI1 (by omega) hlg) (n0 _) ⟨by decide, by decide⟩ rfl rfl (by decide) (by decide) (Nat.le_of_ble_eq_true rfl) (fun _ _ r4 => ?_) (fun _ _ h => h.elim)
  obtain ⟨rfl, I4, L4, R4, ln4, qu4, lg4, rfl, hR4, hl4⟩ := r4
  refine J_eq (st' := []) rfl rfl rfl ?_
  refine J_iload 4 rfl dX7_setOn_49 ?_
  exact J_ireturn rfl (by first | rfl | assumption | simp [kb_nar]) dX7_setOn_51 (⟨rfl, I4, L4, R4, ln4, qu4, lg4, rfl, hR4, hl4⟩) (by omega) (by omega)

set_option maxRecDepth 20000 in
set_option maxHeartbeats 1000000 in
theorem c_X7_setOn_0n {cy : Nat → ClassId} {S : Nat → Nat → Nat} {I : kI} {L : kL} {R : kRf} {LP : List Nat} {m : Mu} {rc : Nat → Nat} {ln qu : List Nat} {lg B : Nat} {s : Nat} (hR : Rel m I L R LP rc ln qu lg) (hI : Inv m B) (hB : B + 4100 < 2 ^ 30) (hlg : lg < 2 ^ 30) (hs : s < mS m) (hm : mHold m (nI s) = none) : Con yX7_setOn cX7_setOn 6 (some .boolean) 11 0 0 cy [.ref (ka S 0 0), .int (nI s), .int 0] (wc cy S I L R LP) (fun r w' => r = some (.int (if m.1 43 s = 0 then 1 else 0)) ∧ RelX cy S LP rc (mSpeak (soM m s false)) w') kF := by
  obtain ⟨hS, hC, hH, hL, hG, hT⟩ := hR
  have hR : Rel m I L R LP rc ln qu lg := ⟨hS, hC, hH, hL, hG, hT⟩
  have hRc := hC.2.2
  have hkk := hI.2.2.2.1
  have hh := hI.2.2.2.2.1
  have hst := hS.2.1
  have hst2 := hst.2
  have hs10 : s < 10 := by omega
  obtain ⟨g0, g1, g2⟩ := hS.2.2.2 s hs
  obtain ⟨g3, g4, g5⟩ := hS.2.2.1 s hs10
  have hnr := nar_on (m.1 43 s = 0)
  have hR1 := rel_so (b := false) hR hs
  have hI1 := inv_so (b := false) hI hs
  have hho := hold_eq hR1.2.1 hR1.2.2.1 hI1.2.2.2.2.1 (s := s) (by omega)
  rw [show mHold (soM m s false) (nI s) = mHold m (nI s) from rfl] at hho
  rw [hm] at hho
  refine Con_of (by decide +kernel) (Nat.le_of_ble_eq_true rfl) ?_
  refine J_eq (lv' := [(0, .ref (ka S 0 0)), (1, .int (nI s)), (2, .int 0)]) rfl rfl rfl ?_
  refine J_aload_n 0 rfl dX7_setOn_0 ?_
  refine gf_7_10 (n0 _) dX7_setOn_1 ?_
  refine J_iload_n 1 rfl dX7_setOn_4 ?_
  refine cv_7_70 (cells' := 0) (slots' := 0) dX7_setOn_5 (c_X1_numbered_s hst hs) (n1 _) ⟨by decide, by decide⟩ rfl rfl (by decide) (by decide) (Nat.le_of_ble_eq_true rfl) (fun _ _ r1 => ?_) (fun _ _ h => h.elim)
  obtain ⟨rfl, rfl⟩ := r1
  refine J_eq (st' := [.ref (ka S 17 s)]) rfl rfl rfl ?_
  refine J_astore_n (lv' := [(0, .ref (ka S 0 0)), (1, .int (nI s)), (2, .int 0), (3, .ref (ka S 17 s))]) (by decide) rfl dX7_setOn_8 ?_
  refine J_aload_n 3 rfl dX7_setOn_9 ?_
  refine gf_7_82 (n17 _ (by omega)) dX7_setOn_10 ?_
  refine J_topeq (if m.1 43 s = 0 then 1 else 0) (by exact g2) ?_
  refine J_istore (lv' := [(0, .ref (ka S 0 0)), (1, .int (nI s)), (2, .int 0), (3, .ref (ka S 17 s)), (4, .int (if m.1 43 s = 0 then 1 else 0))]) (by decide) rfl dX7_setOn_13 ?_
  refine J_aload_n 3 rfl dX7_setOn_15 ?_
  refine J_iload_n 2 rfl dX7_setOn_16 ?_
  refine pf_7_82 (by first | assumption | decide | simp) (by first | assumption | decide | simp) (n17 _ (by omega)) dX7_setOn_17 ?_
  refine J_aload_n 0 rfl dX7_setOn_20 ?_
  refine gf_7_26 (n0 _) dX7_setOn_21 ?_
  refine J_iload_n 1 rfl dX7_setOn_24 ?_
  refine cv_7_86 (cells' := 0) (slots' := 0) dX7_setOn_25 (c_X0_holderOf (I := (ku I 17 s 2 0)) (s := nI s) (hH.inLP hC)) (n3 _) ⟨by decide, by decide⟩ rfl rfl (by decide) (by decide) (Nat.le_of_ble_eq_true rfl) (fun _ _ r2 => ?_) (fun _ _ h => h.elim)
  obtain ⟨rfl, rfl⟩ := r2
  refine J_eq (st' := [va_rf (holdF (ku I 17 s 2 0) R (1 <<< (nI s &&& 31)))]) rfl rfl rfl ?_
  refine J_topv (v' := .null) (by first | rfl | (exact (congrArg va_rf hho))) ?_
  refine J_astoreN (lv' := [(0, .ref (ka S 0 0)), (1, .int (nI s)), (2, .int 0), (3, .ref (ka S 17 s)), (4, .int (if m.1 43 s = 0 then 1 else 0)), (5, .null)]) (by decide) rfl dX7_setOn_28 ?_
  refine J_iload_n 2 rfl dX7_setOn_30 ?_
  refine J_if_ne 45 (by decide) dX7_setOn_31 (fun c3 => ?_) (fun c3 => ?_)
  · exact absurd (by decide) c3
  refine J_aloadN 5 rfl dX7_setOn_34 ?_
  refine J_ifnullN 45 (by decide) dX7_setOn_36 ?_
  refine J_aload_n 0 rfl dX7_setOn_45 ?_
  refine cv_7_67 (cells' := 0) (slots' := 0) dX7_setOn_46 (c_X7_letSpeak hR1 hI1 (by omega) hlg) (n0 _) ⟨by decide, by decide⟩ rfl rfl (by decide) (by decide) (Nat.le_of_ble_eq_true rfl) (fun _ _ r4 => ?_) (fun _ _ h => h.elim)
  obtain ⟨rfl, I4, L4, R4, ln4, qu4, lg4, rfl, hR4, hl4⟩ := r4
  refine J_eq (st' := []) rfl rfl rfl ?_
  refine J_iload 4 rfl dX7_setOn_49 ?_
  exact J_ireturn rfl (by first | rfl | assumption | simp [kb_nar]) dX7_setOn_51 (⟨rfl, I4, L4, R4, ln4, qu4, lg4, rfl, hR4, hl4⟩) (by omega) (by omega)

set_option maxRecDepth 20000 in
set_option maxHeartbeats 1000000 in
theorem c_X7_setOn_0c {cy : Nat → ClassId} {S : Nat → Nat → Nat} {I : kI} {L : kL} {R : kRf} {LP : List Nat} {m : Mu} {rc : Nat → Nat} {ln qu : List Nat} {lg B : Nat} {s c : Nat} (hR : Rel m I L R LP rc ln qu lg) (hI : Inv m B) (hB : B + 4100 < 2 ^ 30) (hlg : lg < 2 ^ 30) (hs : s < mS m) (hm : mHold m (nI s) = some c) : Con yX7_setOn cX7_setOn 6 (some .boolean) 11 0 0 cy [.ref (ka S 0 0), .int (nI s), .int 0] (wc cy S I L R LP) (fun r w' => r = some (.int (if m.1 43 s = 0 then 1 else 0)) ∧ RelX cy S LP rc (mSpeak (mInt (soM m s false) c)) w') kF := by
  obtain ⟨hS, hC, hH, hL, hG, hT⟩ := hR
  have hR : Rel m I L R LP rc ln qu lg := ⟨hS, hC, hH, hL, hG, hT⟩
  have hRc := hC.2.2
  have hkk := hI.2.2.2.1
  have hh := hI.2.2.2.2.1
  have hst := hS.2.1
  have hst2 := hst.2
  have hs10 : s < 10 := by omega
  obtain ⟨g0, g1, g2⟩ := hS.2.2.2 s hs
  obtain ⟨g3, g4, g5⟩ := hS.2.2.1 s hs10
  have hnr := nar_on (m.1 43 s = 0)
  have hR1 := rel_so (b := false) hR hs
  have hI1 := inv_so (b := false) hI hs
  have hho := hold_eq hR1.2.1 hR1.2.2.1 hI1.2.2.2.2.1 (s := s) (by omega)
  rw [show mHold (soM m s false) (nI s) = mHold m (nI s) from rfl] at hho
  rw [hm] at hho
  obtain ⟨hc, hsc, -⟩ := (mHold_iff hh (by omega)).mp hm
  obtain ⟨h0, h03, -, hmc⟩ := mOn_spk (m := soM m s false) hI1.2.2.2.2.1 hc hsc
  have ha : rc c ∈ LP := (hC.2.1.2.2 c hc).2
  refine Con_of (by decide +kernel) (Nat.le_of_ble_eq_true rfl) ?_
  refine J_eq (lv' := [(0, .ref (ka S 0 0)), (1, .int (nI s)), (2, .int 0)]) rfl rfl rfl ?_
  refine J_aload_n 0 rfl dX7_setOn_0 ?_
  refine gf_7_10 (n0 _) dX7_setOn_1 ?_
  refine J_iload_n 1 rfl dX7_setOn_4 ?_
  refine cv_7_70 (cells' := 0) (slots' := 0) dX7_setOn_5 (c_X1_numbered_s hst hs) (n1 _) ⟨by decide, by decide⟩ rfl rfl (by decide) (by decide) (Nat.le_of_ble_eq_true rfl) (fun _ _ r1 => ?_) (fun _ _ h => h.elim)
  obtain ⟨rfl, rfl⟩ := r1
  refine J_eq (st' := [.ref (ka S 17 s)]) rfl rfl rfl ?_
  refine J_astore_n (lv' := [(0, .ref (ka S 0 0)), (1, .int (nI s)), (2, .int 0), (3, .ref (ka S 17 s))]) (by decide) rfl dX7_setOn_8 ?_
  refine J_aload_n 3 rfl dX7_setOn_9 ?_
  refine gf_7_82 (n17 _ (by omega)) dX7_setOn_10 ?_
  refine J_topeq (if m.1 43 s = 0 then 1 else 0) (by exact g2) ?_
  refine J_istore (lv' := [(0, .ref (ka S 0 0)), (1, .int (nI s)), (2, .int 0), (3, .ref (ka S 17 s)), (4, .int (if m.1 43 s = 0 then 1 else 0))]) (by decide) rfl dX7_setOn_13 ?_
  refine J_aload_n 3 rfl dX7_setOn_15 ?_
  refine J_iload_n 2 rfl dX7_setOn_16 ?_
  refine pf_7_82 (by first | assumption | decide | simp) (by first | assumption | decide | simp) (n17 _ (by omega)) dX7_setOn_17 ?_
  refine J_aload_n 0 rfl dX7_setOn_20 ?_
  refine gf_7_26 (n0 _) dX7_setOn_21 ?_
  refine J_iload_n 1 rfl dX7_setOn_24 ?_
  refine cv_7_86 (cells' := 0) (slots' := 0) dX7_setOn_25 (c_X0_holderOf (I := (ku I 17 s 2 0)) (s := nI s) (hH.inLP hC)) (n3 _) ⟨by decide, by decide⟩ rfl rfl (by decide) (by decide) (Nat.le_of_ble_eq_true rfl) (fun _ _ r2 => ?_) (fun _ _ h => h.elim)
  obtain ⟨rfl, rfl⟩ := r2
  refine J_eq (st' := [va_rf (holdF (ku I 17 s 2 0) R (1 <<< (nI s &&& 31)))]) rfl rfl rfl ?_
  refine J_topv (v' := .ref (rc c)) (by first | rfl | (exact (congrArg va_rf hho))) ?_
  refine J_astore (lv' := [(0, .ref (ka S 0 0)), (1, .int (nI s)), (2, .int 0), (3, .ref (ka S 17 s)), (4, .int (if m.1 43 s = 0 then 1 else 0)), (5, .ref (rc c))]) (by decide) rfl dX7_setOn_28 ?_
  refine J_iload_n 2 rfl dX7_setOn_30 ?_
  refine J_if_ne 45 (by decide) dX7_setOn_31 (fun c3 => ?_) (fun c3 => ?_)
  · exact absurd (by decide) c3
  refine J_aload 5 rfl dX7_setOn_34 ?_
  refine J_ifnull dX7_setOn_36 ?_
  refine J_aload_n 0 rfl dX7_setOn_39 ?_
  refine J_aload 5 rfl dX7_setOn_40 ?_
  refine cv_7_90 (cells' := 0) (slots' := 0) dX7_setOn_42 (c_X7_interrupt hR1 hI1 (by omega) hlg (c := c) hmc h03) (n0 _) ⟨by decide, by decide⟩ rfl rfl (by decide) (by decide) (Nat.le_of_ble_eq_true rfl) (fun _ _ r4 => ?_) (fun _ _ h => h.elim)
  obtain ⟨rfl, I2, L2, R2, ln2, qu2, lg2, rfl, hR2, hl2⟩ := r4
  refine J_eq (st' := []) rfl rfl rfl ?_
  have hI2 := inv_int hI1 hc hsc
  have hlg2 := lg_lt hR2.2.2.2.2.1 hI2.2.2.2.2.2.2.1 (by omega) hl2
  refine J_aload_n 0 rfl dX7_setOn_45 ?_
  refine cv_7_67 (cells' := 0) (slots' := 0) dX7_setOn_46 (c_X7_letSpeak hR2 hI2 (by omega) hlg2) (n0 _) ⟨by decide, by decide⟩ rfl rfl (by decide) (by decide) (Nat.le_of_ble_eq_true rfl) (fun _ _ r5 => ?_) (fun _ _ h => h.elim)
  obtain ⟨rfl, I4, L4, R4, ln4, qu4, lg4, rfl, hR4, hl4⟩ := r5
  refine J_eq (st' := []) rfl rfl rfl ?_
  refine J_iload 4 rfl dX7_setOn_49 ?_
  exact J_ireturn rfl (by first | rfl | assumption | simp [kb_nar]) dX7_setOn_51 (⟨rfl, I4, L4, R4, ln4, qu4, lg4, rfl, hR4, hl4⟩) (by omega) (by omega)

set_option maxRecDepth 20000 in
set_option maxHeartbeats 1000000 in
theorem c_X7_setOn_x {cy : Nat → ClassId} {S : Nat → Nat → Nat} {I : kI} {L : kL} {R : kRf} {LP : List Nat} {m : Mu} {rc : Nat → Nat} {ln qu : List Nat} {lg B : Nat} {x v : Int32} (hR : Rel m I L R LP rc ln qu lg) (hI : Inv m B) (hB : B < 2 ^ 30) (hlg : lg < 2 ^ 30) (hx : ∀ s, s < mS m → x ≠ nI s) : Con yX7_setOn cX7_setOn 6 (some .boolean) 7 1 6 cy [.ref (ka S 0 0), .int x, .int v] (wc cy S I L R LP) kNo (kTX "java/lang/IndexOutOfBoundsException" cy S LP rc m) := by
  obtain ⟨hS, hC, hH, hL, hG, hT⟩ := hR
  have hR : Rel m I L R LP rc ln qu lg := ⟨hS, hC, hH, hL, hG, hT⟩
  have hRc := hC.2.2
  have hkk := hI.2.2.2.1
  have hh := hI.2.2.2.2.1
  have hst := hS.2.1
  have hst2 := hst.2
  refine Con_of (by decide +kernel) (Nat.le_of_ble_eq_true rfl) ?_
  refine J_eq (lv' := [(0, .ref (ka S 0 0)), (1, .int x), (2, .int v)]) rfl rfl rfl ?_
  refine J_aload_n 0 rfl dX7_setOn_0 ?_
  refine gf_7_10 (n0 _) dX7_setOn_1 ?_
  refine J_iload_n 1 rfl dX7_setOn_4 ?_
  exact cv_7_70 (cells' := 1) (slots' := 6) dX7_setOn_5 (c_X1_numbered_x hst hx) (n1 _) ⟨by decide, by decide⟩ rfl rfl (by decide) (by decide) (Nat.le_of_ble_eq_true rfl) (fun _ _ h => h.elim) (fun E9 w9 h9 => by obtain ⟨rfl, rfl⟩ := h9; exact ⟨rfl, I, L, R, ln, qu, lg, rfl, hR, by omega⟩)

