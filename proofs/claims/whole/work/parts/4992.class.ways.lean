/-! the public calls on ways and the line, by cases -/
section WY
variable {m : Mu} {I I' : kI} {L : kL} {R : kRf} {LP : List Nat} {rc : Nat → Nat} {ln qu : List Nat} {lg B : Nat}
theorem lnAt_map {l : List Nat} {f : Nat → Nat} {x : Int32} : lnAt (l.map f) x = (lnAt l x).map f := by
  unfold lnAt; split
  · rw [List.getElem?_map]
  · rfl
theorem lnAt_mem {l : List Nat} {x : Int32} {c : Nat} (h : lnAt l x = some c) : c ∈ l := by
  unfold lnAt at h; split at h
  · exact List.mem_of_getElem? h
  · cases h
def fScr (I I' : kI) : Prop := ∀ k i, k ≠ 7 → k ≠ 8 → k ≠ 9 → k ≠ 11 → I' k i = I k i
theorem rel_scr (hR : Rel m I L R LP rc ln qu lg) (e : fScr I I') : Rel m I' L R LP rc ln qu lg := by
  obtain ⟨hS, hC, hH, hL, hG, hT⟩ := hR
  refine ⟨?_, ?_, ?_, ?_, ?_, ?_⟩
  · exact relS_c hS (by rw [e 1 0 (by decide) (by decide) (by decide) (by decide)]) (fun s f => by rw [e 17 s (by decide) (by decide) (by decide) (by decide)]) rfl (fun s => ⟨rfl, rfl, rfl, rfl, rfl, rfl⟩)
  · refine relC_c hC (by rw [e 0 0 (by decide) (by decide) (by decide) (by decide)]) (fun _ _ => rfl) rfl (fun i hi => ?_)
    unfold cR sR
    rw [e 20 (rc i) (by decide) (by decide) (by decide) (by decide)]
    exact hC.2.2 i hi
  · exact ⟨hH.1, fun h h3 => by rw [e 15 0 (by decide) (by decide) (by decide) (by decide)]; exact hH.2 h h3⟩
  · unfold relL at hL ⊢
    rw [e 2 0 (by decide) (by decide) (by decide) (by decide)]; exact hL
  · exact relG_c hG (fun f => by rw [e 4 0 (by decide) (by decide) (by decide) (by decide)]) (fun k f => by rw [e 18 k (by decide) (by decide) (by decide) (by decide)]) ⟨rfl, fun _ => rfl, fun _ => rfl, fun _ => rfl⟩
  · exact relT_c hT (fun f _ => by rw [e 0 0 (by decide) (by decide) (by decide) (by decide)]) ⟨rfl, rfl, rfl, rfl, rfl⟩
theorem ds_way (hS : relS m I) (hok : okS m) {s t : Nat} (hs : s < mS m) (ht : t < mS m) : (mWay m (nI s) (nI t) ≠ [] → dS (cAdj I) (mS m) t s + 1 = (mWay m (nI s) (nI t)).length ∧ (mWay m (nI s) (nI t)).length ≤ 10 ∧ (s ≠ t → 1 ≤ dS (cAdj I) (mS m) t s)) ∧ (mWay m (nI s) (nI t) = [] → dS (cAdj I) (mS m) t s = 1000) := by
  have h10 := hS.2.1.2
  have hl := gWay_le (adj := cAdj I) h10 ht hs
  rw [← way_eq hS hok hs ht]
  by_cases h : gD (cAdj I) (mS m) t s < 99
  · have e := (gWay_len h10 ht hs h).1
    have ed : dS (cAdj I) (mS m) t s = gD (cAdj I) (mS m) t s := if_pos ⟨hs, h⟩
    refine ⟨fun _ => ⟨by rw [ed, e], hl.1, fun hne => ?_⟩, fun z => ?_⟩
    · rw [ed]
      rcases Nat.eq_zero_or_pos (gD (cAdj I) (mS m) t s) with q | q
      · exact absurd (gD_zero q) hne
      · exact q
    · rw [z] at e; simp at e
  · refine ⟨fun z => absurd (if_neg h) z, fun _ => if_neg (fun z => h z.2)⟩
end WY

set_option maxRecDepth 20000 in
set_option maxHeartbeats 1000000 in
theorem c_X7_relays_s {cy : Nat → ClassId} {S : Nat → Nat → Nat} {I : kI} {L : kL} {R : kRf} {LP : List Nat} {m : Mu} {rc : Nat → Nat} {ln qu : List Nat} {lg B : Nat} {s t : Nat} (hR : Rel m I L R LP rc ln qu lg) (hI : Inv m B) (hB : B < 2 ^ 30) (hlg : lg < 2 ^ 30) (hs : s < mS m) (ht : t < mS m) (hne : s ≠ t) (hw : (mWay m (nI s) (nI t)) ≠ []) : Con yX7_relays cX7_relays 3 (some .int) 9 0 0 cy [.ref (ka S 0 0), .int (nI s), .int (nI t)] (wc cy S I L R LP) (fun r w' => r = some (.int (nI ((mWay m (nI s) (nI t)).length - 2))) ∧ RelX cy S LP rc m w') kF := by
  obtain ⟨hS, hC, hH, hL, hG, hT⟩ := hR
  have hR : Rel m I L R LP rc ln qu lg := ⟨hS, hC, hH, hL, hG, hT⟩
  have hRc := hC.2.2
  have hkk := hI.2.2.2.1
  have hh := hI.2.2.2.2.1
  have hst := hS.2.1
  have hst2 := hst.2
  have hdw := ds_way hS hI.2.1 hs ht
  refine Con_of (by decide +kernel) (Nat.le_of_ble_eq_true rfl) ?_
  refine J_eq (lv' := [(0, .ref (ka S 0 0)), (1, .int (nI s)), (2, .int (nI t))]) rfl rfl rfl ?_
  refine J_aload_n 0 rfl dX7_relays_0 ?_
  refine J_iload_n 1 rfl dX7_relays_1 ?_
  refine J_iload_n 2 rfl dX7_relays_2 ?_
  refine cv_7_97 (cells' := 0) (slots' := 0) dX7_relays_3 (c_X7_checkPair_s hst hs ht hne) (n0 _) ⟨by decide, by decide⟩ rfl rfl (by decide) (by decide) (Nat.le_of_ble_eq_true rfl) (fun _ _ r1 => ?_) (fun _ _ h => h.elim)
  obtain ⟨rfl, rfl⟩ := r1
  refine J_eq (st' := []) rfl rfl rfl ?_
  refine J_aload_n 0 rfl dX7_relays_6 ?_
  refine gf_7_10 (n0 _) dX7_relays_7 ?_
  refine J_iload_n 1 rfl dX7_relays_10 ?_
  refine J_iload_n 2 rfl dX7_relays_11 ?_
  refine cv_7_112 (cells' := 0) (slots' := 0) dX7_relays_12 (c_X1_stepsBetween hst ht hs) (n1 _) ⟨by decide, by decide⟩ rfl rfl (by decide) (by decide) (Nat.le_of_ble_eq_true rfl) (fun _ _ r2 => ?_) (fun _ _ h => h.elim)
  obtain ⟨I1, rfl, rfl, hf1⟩ := r2
  refine J_eq (st' := [.int (nI (dS (cAdj I) (mS m) t s))]) rfl rfl rfl ?_
  have hR1 := rel_scr hR (fun k i h1 h2 _ _ => hf1 k i h1 h2)
  refine cv_7_115 (i := 0) (cells' := 0) (slots' := 0) dX7_relays_15 (c_X7_relaysOfSteps_s ((hdw.1 hw).2.2 hne) (by have := (hdw.1 hw).1; have := (hdw.1 hw).2.1; omega)) ⟨by decide, by decide⟩ rfl rfl (by decide) (by decide) (Nat.le_of_ble_eq_true rfl) (fun _ _ r3 => ?_) (fun _ _ h => h.elim)
  obtain ⟨rfl, rfl⟩ := r3
  refine J_eq (st' := [.int (nI (dS (cAdj I) (mS m) t s - 1))]) rfl rfl rfl ?_
  refine J_topeq (nI ((mWay m (nI s) (nI t)).length - 2)) (by have := (hdw.1 hw).1; rw [← this]; congr 1) ?_
  exact J_ireturn rfl (by first | rfl | assumption | simp [kb_nar]) dX7_relays_18 (⟨rfl, I1, L, R, ln, qu, lg, rfl, hR1, by omega⟩) (by omega) (by omega)

set_option maxRecDepth 20000 in
set_option maxHeartbeats 1000000 in
theorem c_X7_relays_n {cy : Nat → ClassId} {S : Nat → Nat → Nat} {I : kI} {L : kL} {R : kRf} {LP : List Nat} {m : Mu} {rc : Nat → Nat} {ln qu : List Nat} {lg B : Nat} {s t : Nat} (hR : Rel m I L R LP rc ln qu lg) (hI : Inv m B) (hB : B < 2 ^ 30) (hlg : lg < 2 ^ 30) (hs : s < mS m) (ht : t < mS m) (hne : s ≠ t) (hw : (mWay m (nI s) (nI t)) = []) : Con yX7_relays cX7_relays 3 (some .int) 9 1 6 cy [.ref (ka S 0 0), .int (nI s), .int (nI t)] (wc cy S I L R LP) kNo (kTX "java/util/NoSuchElementException" cy S LP rc m) := by
  obtain ⟨hS, hC, hH, hL, hG, hT⟩ := hR
  have hR : Rel m I L R LP rc ln qu lg := ⟨hS, hC, hH, hL, hG, hT⟩
  have hRc := hC.2.2
  have hkk := hI.2.2.2.1
  have hh := hI.2.2.2.2.1
  have hst := hS.2.1
  have hst2 := hst.2
  have hdw := ds_way hS hI.2.1 hs ht
  refine Con_of (by decide +kernel) (Nat.le_of_ble_eq_true rfl) ?_
  refine J_eq (lv' := [(0, .ref (ka S 0 0)), (1, .int (nI s)), (2, .int (nI t))]) rfl rfl rfl ?_
  refine J_aload_n 0 rfl dX7_relays_0 ?_
  refine J_iload_n 1 rfl dX7_relays_1 ?_
  refine J_iload_n 2 rfl dX7_relays_2 ?_
  refine cv_7_97 (cells' := 0) (slots' := 0) dX7_relays_3 (c_X7_checkPair_s hst hs ht hne) (n0 _) ⟨by decide, by decide⟩ rfl rfl (by decide) (by decide) (Nat.le_of_ble_eq_true rfl) (fun _ _ r1 => ?_) (fun _ _ h => h.elim)
  obtain ⟨rfl, rfl⟩ := r1
  refine J_eq (st' := []) rfl rfl rfl ?_
  refine J_aload_n 0 rfl dX7_relays_6 ?_
  refine gf_7_10 (n0 _) dX7_relays_7 ?_
  refine J_iload_n 1 rfl dX7_relays_10 ?_
  refine J_iload_n 2 rfl dX7_relays_11 ?_
  refine cv_7_112 (cells' := 0) (slots' := 0) dX7_relays_12 (c_X1_stepsBetween hst ht hs) (n1 _) ⟨by decide, by decide⟩ rfl rfl (by decide) (by decide) (Nat.le_of_ble_eq_true rfl) (fun _ _ r2 => ?_) (fun _ _ h => h.elim)
  obtain ⟨I1, rfl, rfl, hf1⟩ := r2
  refine J_eq (st' := [.int (nI (dS (cAdj I) (mS m) t s))]) rfl rfl rfl ?_
  have hR1 := rel_scr hR (fun k i h1 h2 _ _ => hf1 k i h1 h2)
  exact cv_7_115 (i := 0) (cells' := 1) (slots' := 6) dX7_relays_15 (c_X7_relaysOfSteps_x (k := dS (cAdj I) (mS m) t s) (by rw [hdw.2 hw]; omega) (by rw [hdw.2 hw]; omega)) ⟨by decide, by decide⟩ rfl rfl (by decide) (by decide) (Nat.le_of_ble_eq_true rfl) (fun _ _ h => h.elim) (fun E9 w9 h9 => by obtain ⟨rfl, rfl⟩ := h9; exact ⟨rfl, I1, L, R, ln, qu, lg, rfl, hR1, by omega⟩)

set_option maxRecDepth 20000 in
set_option maxHeartbeats 1000000 in
theorem c_X7_relays_e {cy : Nat → ClassId} {S : Nat → Nat → Nat} {I : kI} {L : kL} {R : kRf} {LP : List Nat} {m : Mu} {rc : Nat → Nat} {ln qu : List Nat} {lg B : Nat} {s : Nat}  (hR : Rel m I L R LP rc ln qu lg) (hI : Inv m B) (hB : B < 2 ^ 30) (hlg : lg < 2 ^ 30) (hs : s < mS m) : Con yX7_relays cX7_relays 3 (some .int) 9 1 6 cy [.ref (ka S 0 0), .int (nI s), .int (nI s)] (wc cy S I L R LP) kNo (kTX "java/lang/IllegalArgumentException" cy S LP rc m) := by
  obtain ⟨hS, hC, hH, hL, hG, hT⟩ := hR
  have hR : Rel m I L R LP rc ln qu lg := ⟨hS, hC, hH, hL, hG, hT⟩
  have hRc := hC.2.2
  have hkk := hI.2.2.2.1
  have hh := hI.2.2.2.2.1
  have hst := hS.2.1
  have hst2 := hst.2
  refine Con_of (by decide +kernel) (Nat.le_of_ble_eq_true rfl) ?_
  refine J_eq (lv' := [(0, .ref (ka S 0 0)), (1, .int (nI s)), (2, .int (nI s))]) rfl rfl rfl ?_
  refine J_aload_n 0 rfl dX7_relays_0 ?_
  refine J_iload_n 1 rfl dX7_relays_1 ?_
  refine J_iload_n 2 rfl dX7_relays_2 ?_
  exact cv_7_97 (cells' := 1) (slots' := 6) dX7_relays_3 (c_X7_checkPair_e hst hs) (n0 _) ⟨by decide, by decide⟩ rfl rfl (by decide) (by decide) (Nat.le_of_ble_eq_true rfl) (fun _ _ h => h.elim) (fun E9 w9 h9 => by obtain ⟨rfl, rfl⟩ := h9; exact ⟨rfl, I, L, R, ln, qu, lg, rfl, hR, by omega⟩)

set_option maxRecDepth 20000 in
set_option maxHeartbeats 1000000 in
theorem c_X7_relays_x {cy : Nat → ClassId} {S : Nat → Nat → Nat} {I : kI} {L : kL} {R : kRf} {LP : List Nat} {m : Mu} {rc : Nat → Nat} {ln qu : List Nat} {lg B : Nat} {x y : Int32}  (hR : Rel m I L R LP rc ln qu lg) (hI : Inv m B) (hB : B < 2 ^ 30) (hlg : lg < 2 ^ 30) (hx : ∀ s, s < mS m → x ≠ nI s) : Con yX7_relays cX7_relays 3 (some .int) 9 1 6 cy [.ref (ka S 0 0), .int x, .int y] (wc cy S I L R LP) kNo (kTX "java/lang/IndexOutOfBoundsException" cy S LP rc m) := by
  obtain ⟨hS, hC, hH, hL, hG, hT⟩ := hR
  have hR : Rel m I L R LP rc ln qu lg := ⟨hS, hC, hH, hL, hG, hT⟩
  have hRc := hC.2.2
  have hkk := hI.2.2.2.1
  have hh := hI.2.2.2.2.1
  have hst := hS.2.1
  have hst2 := hst.2
  refine Con_of (by decide +kernel) (Nat.le_of_ble_eq_true rfl) ?_
  refine J_eq (lv' := [(0, .ref (ka S 0 0)), (1, .int x), (2, .int y)]) rfl rfl rfl ?_
  refine J_aload_n 0 rfl dX7_relays_0 ?_
  refine J_iload_n 1 rfl dX7_relays_1 ?_
  refine J_iload_n 2 rfl dX7_relays_2 ?_
  exact cv_7_97 (cells' := 1) (slots' := 6) dX7_relays_3 (c_X7_checkPair_x hst hx) (n0 _) ⟨by decide, by decide⟩ rfl rfl (by decide) (by decide) (Nat.le_of_ble_eq_true rfl) (fun _ _ h => h.elim) (fun E9 w9 h9 => by obtain ⟨rfl, rfl⟩ := h9; exact ⟨rfl, I, L, R, ln, qu, lg, rfl, hR, by omega⟩)

set_option maxRecDepth 20000 in
set_option maxHeartbeats 1000000 in
theorem c_X7_relays_y {cy : Nat → ClassId} {S : Nat → Nat → Nat} {I : kI} {L : kL} {R : kRf} {LP : List Nat} {m : Mu} {rc : Nat → Nat} {ln qu : List Nat} {lg B : Nat} {s : Nat} {x : Int32}  (hR : Rel m I L R LP rc ln qu lg) (hI : Inv m B) (hB : B < 2 ^ 30) (hlg : lg < 2 ^ 30) (hs : s < mS m) (hx : ∀ s, s < mS m → x ≠ nI s) : Con yX7_relays cX7_relays 3 (some .int) 9 1 6 cy [.ref (ka S 0 0), .int (nI s), .int x] (wc cy S I L R LP) kNo (kTX "java/lang/IndexOutOfBoundsException" cy S LP rc m) := by
  obtain ⟨hS, hC, hH, hL, hG, hT⟩ := hR
  have hR : Rel m I L R LP rc ln qu lg := ⟨hS, hC, hH, hL, hG, hT⟩
  have hRc := hC.2.2
  have hkk := hI.2.2.2.1
  have hh := hI.2.2.2.2.1
  have hst := hS.2.1
  have hst2 := hst.2
  refine Con_of (by decide +kernel) (Nat.le_of_ble_eq_true rfl) ?_
  refine J_eq (lv' := [(0, .ref (ka S 0 0)), (1, .int (nI s)), (2, .int x)]) rfl rfl rfl ?_
  refine J_aload_n 0 rfl dX7_relays_0 ?_
  refine J_iload_n 1 rfl dX7_relays_1 ?_
  refine J_iload_n 2 rfl dX7_relays_2 ?_
  exact cv_7_97 (cells' := 1) (slots' := 6) dX7_relays_3 (c_X7_checkPair_y hst hs hx) (n0 _) ⟨by decide, by decide⟩ rfl rfl (by decide) (by decide) (Nat.le_of_ble_eq_true rfl) (fun _ _ h => h.elim) (fun E9 w9 h9 => by obtain ⟨rfl, rfl⟩ := h9; exact ⟨rfl, I, L, R, ln, qu, lg, rfl, hR, by omega⟩)

set_option maxRecDepth 20000 in
set_option maxHeartbeats 1000000 in
theorem c_X7_relaysByJoining_s {cy : Nat → ClassId} {S : Nat → Nat → Nat} {I : kI} {L : kL} {R : kRf} {LP : List Nat} {m : Mu} {rc : Nat → Nat} {ln qu : List Nat} {lg B : Nat} {s t : Nat} (hR : Rel m I L R LP rc ln qu lg) (hI : Inv m B) (hB : B < 2 ^ 30) (hlg : lg < 2 ^ 30) (hs : s < mS m) (ht : t < mS m) (hne : s ≠ t) (hw : (mWay m (nI s) (nI t)) ≠ []) : Con yX7_relaysByJoining cX7_relaysByJoining 3 (some .int) 10 0 0 cy [.ref (ka S 0 0), .int (nI s), .int (nI t)] (wc cy S I L R LP) (fun r w' => r = some (.int (nI ((mWay m (nI s) (nI t)).length - 2))) ∧ RelX cy S LP rc m w') kF := by
  obtain ⟨hS, hC, hH, hL, hG, hT⟩ := hR
  have hR : Rel m I L R LP rc ln qu lg := ⟨hS, hC, hH, hL, hG, hT⟩
  have hRc := hC.2.2
  have hkk := hI.2.2.2.1
  have hh := hI.2.2.2.2.1
  have hst := hS.2.1
  have hst2 := hst.2
  have hdw := ds_way hS hI.2.1 hs ht
  refine Con_of (by decide +kernel) (Nat.le_of_ble_eq_true rfl) ?_
  refine J_eq (lv' := [(0, .ref (ka S 0 0)), (1, .int (nI s)), (2, .int (nI t))]) rfl rfl rfl ?_
  refine J_aload_n 0 rfl dX7_relaysByJoining_0 ?_
  refine J_iload_n 1 rfl dX7_relaysByJoining_1 ?_
  refine J_iload_n 2 rfl dX7_relaysByJoining_2 ?_
  refine cv_7_97 (cells' := 0) (slots' := 0) dX7_relaysByJoining_3 (c_X7_checkPair_s hst hs ht hne) (n0 _) ⟨by decide, by decide⟩ rfl rfl (by decide) (by decide) (Nat.le_of_ble_eq_true rfl) (fun _ _ r1 => ?_) (fun _ _ h => h.elim)
  obtain ⟨rfl, rfl⟩ := r1
  refine J_eq (st' := []) rfl rfl rfl ?_
  refine J_aload_n 0 rfl dX7_relaysByJoining_6 ?_
  refine gf_7_10 (n0 _) dX7_relaysByJoining_7 ?_
  refine cv_7_119 (cells' := 0) (slots' := 0) dX7_relaysByJoining_10 (c_X1_joinWays hst) (n1 _) ⟨by decide, by decide⟩ rfl rfl (by decide) (by decide) (Nat.le_of_ble_eq_true rfl) (fun _ _ r2 => ?_) (fun _ _ h => h.elim)
  obtain ⟨I1, rfl, rfl, hf1, hj1⟩ := r2
  refine J_eq (st' := []) rfl rfl rfl ?_
  have hR1 := rel_scr hR (fun k i _ _ _ h4 => hf1 k i h4)
  refine J_aload_n 0 rfl dX7_relaysByJoining_13 ?_
  refine gf_7_10 (n0 _) dX7_relaysByJoining_14 ?_
  refine J_iload_n 1 rfl dX7_relaysByJoining_17 ?_
  refine J_iload_n 2 rfl dX7_relaysByJoining_18 ?_
  refine cv_7_122 (cells' := 0) (slots' := 0) dX7_relaysByJoining_19 (c_X1_joinedSteps (by omega) (by omega)) (n1 _) ⟨by decide, by decide⟩ rfl rfl (by decide) (by decide) (Nat.le_of_ble_eq_true rfl) (fun _ _ r3 => ?_) (fun _ _ h => h.elim)
  obtain ⟨rfl, rfl⟩ := r3
  refine J_eq (st' := [.int (I1 11 s t)]) rfl rfl rfl ?_
  refine J_topeq (nI (dS (cAdj I) (mS m) t s)) (hj1 s t hs ht) ?_
  refine cv_7_115 (i := 0) (cells' := 0) (slots' := 0) dX7_relaysByJoining_22 (c_X7_relaysOfSteps_s ((hdw.1 hw).2.2 hne) (by have := (hdw.1 hw).1; have := (hdw.1 hw).2.1; omega)) ⟨by decide, by decide⟩ rfl rfl (by decide) (by decide) (Nat.le_of_ble_eq_true rfl) (fun _ _ r4 => ?_) (fun _ _ h => h.elim)
  obtain ⟨rfl, rfl⟩ := r4
  refine J_eq (st' := [.int (nI (dS (cAdj I) (mS m) t s - 1))]) rfl rfl rfl ?_
  refine J_topeq (nI ((mWay m (nI s) (nI t)).length - 2)) (by have := (hdw.1 hw).1; rw [← this]; congr 1) ?_
  exact J_ireturn rfl (by first | rfl | assumption | simp [kb_nar]) dX7_relaysByJoining_25 (⟨rfl, I1, L, R, ln, qu, lg, rfl, hR1, by omega⟩) (by omega) (by omega)

set_option maxRecDepth 20000 in
set_option maxHeartbeats 1000000 in
theorem c_X7_relaysByJoining_n {cy : Nat → ClassId} {S : Nat → Nat → Nat} {I : kI} {L : kL} {R : kRf} {LP : List Nat} {m : Mu} {rc : Nat → Nat} {ln qu : List Nat} {lg B : Nat} {s t : Nat} (hR : Rel m I L R LP rc ln qu lg) (hI : Inv m B) (hB : B < 2 ^ 30) (hlg : lg < 2 ^ 30) (hs : s < mS m) (ht : t < mS m) (hne : s ≠ t) (hw : (mWay m (nI s) (nI t)) = []) : Con yX7_relaysByJoining cX7_relaysByJoining 3 (some .int) 10 1 6 cy [.ref (ka S 0 0), .int (nI s), .int (nI t)] (wc cy S I L R LP) kNo (kTX "java/util/NoSuchElementException" cy S LP rc m) := by
  obtain ⟨hS, hC, hH, hL, hG, hT⟩ := hR
  have hR : Rel m I L R LP rc ln qu lg := ⟨hS, hC, hH, hL, hG, hT⟩
  have hRc := hC.2.2
  have hkk := hI.2.2.2.1
  have hh := hI.2.2.2.2.1
  have hst := hS.2.1
  have hst2 := hst.2
  have hdw := ds_way hS hI.2.1 hs ht
  refine Con_of (by decide +kernel) (Nat.le_of_ble_eq_true rfl) ?_
  refine J_eq (lv' := [(0, .ref (ka S 0 0)), (1, .int (nI s)), (2, .int (nI t))]) rfl rfl rfl ?_
  refine J_aload_n 0 rfl dX7_relaysByJoining_0 ?_
  refine J_iload_n 1 rfl dX7_relaysByJoining_1 ?_
  refine J_iload_n 2 rfl dX7_relaysByJoining_2 ?_
  refine cv_7_97 (cells' := 0) (slots' := 0) dX7_relaysByJoining_3 (c_X7_checkPair_s hst hs ht hne) (n0 _) ⟨by decide, by decide⟩ rfl rfl (by decide) (by decide) (Nat.le_of_ble_eq_true rfl) (fun _ _ r1 => ?_) (fun _ _ h => h.elim)
  obtain ⟨rfl, rfl⟩ := r1
  refine J_eq (st' := []) rfl rfl rfl ?_
  refine J_aload_n 0 rfl dX7_relaysByJoining_6 ?_
  refine gf_7_10 (n0 _) dX7_relaysByJoining_7 ?_
  refine cv_7_119 (cells' := 0) (slots' := 0) dX7_relaysByJoining_10 (c_X1_joinWays hst) (n1 _) ⟨by decide, by decide⟩ rfl rfl (by decide) (by decide) (Nat.le_of_ble_eq_true rfl) (fun _ _ r2 => ?_) (fun _ _ h => h.elim)
  obtain ⟨I1, rfl, rfl, hf1, hj1⟩ := r2
  refine J_eq (st' := []) rfl rfl rfl ?_
  have hR1 := rel_scr hR (fun k i _ _ _ h4 => hf1 k i h4)
  refine J_aload_n 0 rfl dX7_relaysByJoining_13 ?_
  refine gf_7_10 (n0 _) dX7_relaysByJoining_14 ?_
  refine J_iload_n 1 rfl dX7_relaysByJoining_17 ?_
  refine J_iload_n 2 rfl dX7_relaysByJoining_18 ?_
  refine cv_7_122 (cells' := 0) (slots' := 0) dX7_relaysByJoining_19 (c_X1_joinedSteps (by omega) (by omega)) (n1 _) ⟨by decide, by decide⟩ rfl rfl (by decide) (by decide) (Nat.le_of_ble_eq_true rfl) (fun _ _ r3 => ?_) (fun _ _ h => h.elim)
  obtain ⟨rfl, rfl⟩ := r3
  refine J_eq (st' := [.int (I1 11 s t)]) rfl rfl rfl ?_
  refine J_topeq (nI (dS (cAdj I) (mS m) t s)) (hj1 s t hs ht) ?_
  exact cv_7_115 (i := 0) (cells' := 1) (slots' := 6) dX7_relaysByJoining_22 (c_X7_relaysOfSteps_x (k := dS (cAdj I) (mS m) t s) (by rw [hdw.2 hw]; omega) (by rw [hdw.2 hw]; omega)) ⟨by decide, by decide⟩ rfl rfl (by decide) (by decide) (Nat.le_of_ble_eq_true rfl) (fun _ _ h => h.elim) (fun E9 w9 h9 => by obtain ⟨rfl, rfl⟩ := h9; exact ⟨rfl, I1, L, R, ln, qu, lg, rfl, hR1, by omega⟩)

set_option maxRecDepth 20000 in
set_option maxHeartbeats 1000000 in
theorem c_X7_relaysByJoining_e {cy : Nat → ClassId} {S : Nat → Nat → Nat} {I : kI} {L : kL} {R : kRf} {LP : List Nat} {m : Mu} {rc : Nat → Nat} {ln qu : List Nat} {lg B : Nat} {s : Nat}  (hR : Rel m I L R LP rc ln qu lg) (hI : Inv m B) (hB : B < 2 ^ 30) (hlg : lg < 2 ^ 30) (hs : s < mS m) : Con yX7_relaysByJoining cX7_relaysByJoining 3 (some .int) 10 1 6 cy [.ref (ka S 0 0), .int (nI s), .int (nI s)] (wc cy S I L R LP) kNo (kTX "java/lang/IllegalArgumentException" cy S LP rc m) := by
  obtain ⟨hS, hC, hH, hL, hG, hT⟩ := hR
  have hR : Rel m I L R LP rc ln qu lg := ⟨hS, hC, hH, hL, hG, hT⟩
  have hRc := hC.2.2
  have hkk := hI.2.2.2.1
  have hh := hI.2.2.2.2.1
  have hst := hS.2.1
  have hst2 := hst.2
  refine Con_of (by decide +kernel) (Nat.le_of_ble_eq_true rfl) ?_
  refine J_eq (lv' := [(0, .ref (ka S 0 0)), (1, .int (nI s)), (2, .int (nI s))]) rfl rfl rfl ?_
  refine J_aload_n 0 rfl dX7_relaysByJoining_0 ?_
  refine J_iload_n 1 rfl dX7_relaysByJoining_1 ?_
  refine J_iload_n 2 rfl dX7_relaysByJoining_2 ?_
  exact cv_7_97 (cells' := 1) (slots' := 6) dX7_relaysByJoining_3 (c_X7_checkPair_e hst hs) (n0 _) ⟨by decide, by decide⟩ rfl rfl (by decide) (by decide) (Nat.le_of_ble_eq_true rfl) (fun _ _ h => h.elim) (fun E9 w9 h9 => by obtain ⟨rfl, rfl⟩ := h9; exact ⟨rfl, I, L, R, ln, qu, lg, rfl, hR, by omega⟩)

set_option maxRecDepth 20000 in
set_option maxHeartbeats 1000000 in
theorem c_X7_relaysByJoining_x {cy : Nat → ClassId} {S : Nat → Nat → Nat} {I : kI} {L : kL} {R : kRf} {LP : List Nat} {m : Mu} {rc : Nat → Nat} {ln qu : List Nat} {lg B : Nat} {x y : Int32}  (hR : Rel m I L R LP rc ln qu lg) (hI : Inv m B) (hB : B < 2 ^ 30) (hlg : lg < 2 ^ 30) (hx : ∀ s, s < mS m → x ≠ nI s) : Con yX7_relaysByJoining cX7_relaysByJoining 3 (some .int) 10 1 6 cy [.ref (ka S 0 0), .int x, .int y] (wc cy S I L R LP) kNo (kTX "java/lang/IndexOutOfBoundsException" cy S LP rc m) := by
  obtain ⟨hS, hC, hH, hL, hG, hT⟩ := hR
  have hR : Rel m I L R LP rc ln qu lg := ⟨hS, hC, hH, hL, hG, hT⟩
  have hRc := hC.2.2
  have hkk := hI.2.2.2.1
  have hh := hI.2.2.2.2.1
  have hst := hS.2.1
  have hst2 := hst.2
  refine Con_of (by decide +kernel) (Nat.le_of_ble_eq_true rfl) ?_
  refine J_eq (lv' := [(0, .ref (ka S 0 0)), (1, .int x), (2, .int y)]) rfl rfl rfl ?_
  refine J_aload_n 0 rfl dX7_relaysByJoining_0 ?_
  refine J_iload_n 1 rfl dX7_relaysByJoining_1 ?_
  refine J_iload_n 2 rfl dX7_relaysByJoining_2 ?_
  exact cv_7_97 (cells' := 1) (slots' := 6) dX7_relaysByJoining_3 (c_X7_checkPair_x hst hx) (n0 _) ⟨by decide, by decide⟩ rfl rfl (by decide) (by decide) (Nat.le_of_ble_eq_true rfl) (fun _ _ h => h.elim) (fun E9 w9 h9 => by obtain ⟨rfl, rfl⟩ := h9; exact ⟨rfl, I, L, R, ln, qu, lg, rfl, hR, by omega⟩)

set_option maxRecDepth 20000 in
set_option maxHeartbeats 1000000 in
theorem c_X7_relaysByJoining_y {cy : Nat → ClassId} {S : Nat → Nat → Nat} {I : kI} {L : kL} {R : kRf} {LP : List Nat} {m : Mu} {rc : Nat → Nat} {ln qu : List Nat} {lg B : Nat} {s : Nat} {x : Int32}  (hR : Rel m I L R LP rc ln qu lg) (hI : Inv m B) (hB : B < 2 ^ 30) (hlg : lg < 2 ^ 30) (hs : s < mS m) (hx : ∀ s, s < mS m → x ≠ nI s) : Con yX7_relaysByJoining cX7_relaysByJoining 3 (some .int) 10 1 6 cy [.ref (ka S 0 0), .int (nI s), .int x] (wc cy S I L R LP) kNo (kTX "java/lang/IndexOutOfBoundsException" cy S LP rc m) := by
  obtain ⟨hS, hC, hH, hL, hG, hT⟩ := hR
  have hR : Rel m I L R LP rc ln qu lg := ⟨hS, hC, hH, hL, hG, hT⟩
  have hRc := hC.2.2
  have hkk := hI.2.2.2.1
  have hh := hI.2.2.2.2.1
  have hst := hS.2.1
  have hst2 := hst.2
  refine Con_of (by decide +kernel) (Nat.le_of_ble_eq_true rfl) ?_
  refine J_eq (lv' := [(0, .ref (ka S 0 0)), (1, .int (nI s)), (2, .int x)]) rfl rfl rfl ?_
  refine J_aload_n 0 rfl dX7_relaysByJoining_0 ?_
  refine J_iload_n 1 rfl dX7_relaysByJoining_1 ?_
  refine J_iload_n 2 rfl dX7_relaysByJoining_2 ?_
  exact cv_7_97 (cells' := 1) (slots' := 6) dX7_relaysByJoining_3 (c_X7_checkPair_y hst hs hx) (n0 _) ⟨by decide, by decide⟩ rfl rfl (by decide) (by decide) (Nat.le_of_ble_eq_true rfl) (fun _ _ h => h.elim) (fun E9 w9 h9 => by obtain ⟨rfl, rfl⟩ := h9; exact ⟨rfl, I, L, R, ln, qu, lg, rfl, hR, by omega⟩)

set_option maxRecDepth 20000 in
set_option maxHeartbeats 1000000 in
theorem c_X7_onWay_s {cy : Nat → ClassId} {S : Nat → Nat → Nat} {I : kI} {L : kL} {R : kRf} {LP : List Nat} {m : Mu} {rc : Nat → Nat} {ln qu : List Nat} {lg B : Nat} {s t j x : Nat} (hR : Rel m I L R LP rc ln qu lg) (hI : Inv m B) (hB : B < 2 ^ 30) (hlg : lg < 2 ^ 30) (hs : s < mS m) (ht : t < mS m) (hne : s ≠ t) (hx : (mWay m (nI s) (nI t))[j]? = some x) : Con yX7_onWay cX7_onWay 5 (some .int) 9 0 0 cy [.ref (ka S 0 0), .int (nI s), .int (nI t), .int (nI j)] (wc cy S I L R LP) (fun r w' => r = some (.int (nI x)) ∧ RelX cy S LP rc m w') kF := by
  obtain ⟨hS, hC, hH, hL, hG, hT⟩ := hR
  have hR : Rel m I L R LP rc ln qu lg := ⟨hS, hC, hH, hL, hG, hT⟩
  have hRc := hC.2.2
  have hkk := hI.2.2.2.1
  have hh := hI.2.2.2.2.1
  have hst := hS.2.1
  have hst2 := hst.2
  have hl10 : (mWay m (nI s) (nI t)).length ≤ 10 := by have := (gWay_le (adj := cAdj I) hS.2.1.2 ht hs).1; rw [way_eq hS hI.2.1 hs ht] at this; exact this
  have hjl : j < (mWay m (nI s) (nI t)).length := (List.getElem?_eq_some_iff.mp hx).1
  have hj10 : j < 10 := by omega
  refine Con_of (by decide +kernel) (Nat.le_of_ble_eq_true rfl) ?_
  refine J_eq (lv' := [(0, .ref (ka S 0 0)), (1, .int (nI s)), (2, .int (nI t)), (3, .int (nI j))]) rfl rfl rfl ?_
  refine J_aload_n 0 rfl dX7_onWay_0 ?_
  refine J_iload_n 1 rfl dX7_onWay_1 ?_
  refine J_iload_n 2 rfl dX7_onWay_2 ?_
  refine cv_7_97 (cells' := 0) (slots' := 0) dX7_onWay_3 (c_X7_checkPair_s hst hs ht hne) (n0 _) ⟨by decide, by decide⟩ rfl rfl (by decide) (by decide) (Nat.le_of_ble_eq_true rfl) (fun _ _ r1 => ?_) (fun _ _ h => h.elim)
  obtain ⟨rfl, rfl⟩ := r1
  refine J_eq (st' := []) rfl rfl rfl ?_
  refine J_aload_n 0 rfl dX7_onWay_6 ?_
  refine gf_7_10 (n0 _) dX7_onWay_7 ?_
  refine J_iload_n 1 rfl dX7_onWay_10 ?_
  refine J_iload_n 2 rfl dX7_onWay_11 ?_
  refine cv_7_125 (cells' := 0) (slots' := 0) dX7_onWay_12 (c_X1_findWay hst ht hs) (n1 _) ⟨by decide, by decide⟩ rfl rfl (by decide) (by decide) (Nat.le_of_ble_eq_true rfl) (fun _ _ r2 => ?_) (fun _ _ h => h.elim)
  obtain ⟨I1, rfl, rfl, hf1, hx1⟩ := r2
  refine J_eq (st' := [.int (nI (gWay (cAdj I) (mS m) t s).length)]) rfl rfl rfl ?_
  rw [way_eq hS hI.2.1 hs ht] at hx1
  have hR1 := rel_f789 hR hf1
  refine J_topeq (nI (mWay m (nI s) (nI t)).length) (by rw [way_eq hS hI.2.1 hs ht]) ?_
  refine J_istore (lv' := [(0, .ref (ka S 0 0)), (1, .int (nI s)), (2, .int (nI t)), (3, .int (nI j)), (4, .int (nI (mWay m (nI s) (nI t)).length))]) (by decide) rfl dX7_onWay_15 ?_
  refine J_iload_n 3 rfl dX7_onWay_17 ?_
  refine J_if_lt 27 (by decide) dX7_onWay_18 (fun c3 => ?_) (fun c3 => ?_)
  · exfalso
    have Nc3 : j < 0 := (nI_ltI (a := j) (b := 0) (by omega) (by omega)).mp c3
    omega
  have Nc3 : ¬ (j < 0) := fun q => c3 ((nI_ltI (a := j) (b := 0) (by omega) (by omega)).mpr q)
  refine J_iload_n 3 rfl dX7_onWay_21 ?_
  refine J_iload 4 rfl dX7_onWay_22 ?_
  refine J_icmp_lt 37 (by decide) dX7_onWay_24 (fun c4 => ?_) (fun c4 => ?_)
  rotate_left
  · exfalso
    have Nc4 : ¬ (j < ((mWay m (nI s) (nI t)).length)) := fun q => c4 ((nI_ltI (a := j) (b := ((mWay m (nI s) (nI t)).length)) (by omega) (by omega)).mpr q)
    omega
  have Nc4 : j < ((mWay m (nI s) (nI t)).length) := (nI_ltI (a := j) (b := ((mWay m (nI s) (nI t)).length)) (by omega) (by omega)).mp c4
  refine J_aload_n 0 rfl dX7_onWay_37 ?_
  refine gf_7_10 (n0 _) dX7_onWay_38 ?_
  refine J_iload_n 3 rfl dX7_onWay_41 ?_
  refine cv_7_133 (cells' := 0) (slots' := 0) dX7_onWay_42 (c_X1_stationOfWay (j := j) hj10) (n1 _) ⟨by decide, by decide⟩ rfl rfl (by decide) (by decide) (Nat.le_of_ble_eq_true rfl) (fun _ _ r5 => ?_) (fun _ _ h => h.elim)
  obtain ⟨rfl, rfl⟩ := r5
  refine J_eq (st' := [.int (I1 9 0 j)]) rfl rfl rfl ?_
  refine J_topeq (nI x) (by exact hx1 j x hx) ?_
  exact J_ireturn rfl (by first | rfl | assumption | simp [kb_nar]) dX7_onWay_45 (⟨rfl, I1, L, R, ln, qu, lg, rfl, hR1, by omega⟩) (by omega) (by omega)

set_option maxRecDepth 20000 in
set_option maxHeartbeats 1000000 in
theorem c_X7_onWay_n {cy : Nat → ClassId} {S : Nat → Nat → Nat} {I : kI} {L : kL} {R : kRf} {LP : List Nat} {m : Mu} {rc : Nat → Nat} {ln qu : List Nat} {lg B : Nat} {s t : Nat} {x : Int32} (hR : Rel m I L R LP rc ln qu lg) (hI : Inv m B) (hB : B < 2 ^ 30) (hlg : lg < 2 ^ 30) (hs : s < mS m) (ht : t < mS m) (hne : s ≠ t) (hx : ∀ j, j < (mWay m (nI s) (nI t)).length → x ≠ nI j) : Con yX7_onWay cX7_onWay 5 (some .int) 9 1 6 cy [.ref (ka S 0 0), .int (nI s), .int (nI t), .int x] (wc cy S I L R LP) kNo (kTX "java/util/NoSuchElementException" cy S LP rc m) := by
  obtain ⟨hS, hC, hH, hL, hG, hT⟩ := hR
  have hR : Rel m I L R LP rc ln qu lg := ⟨hS, hC, hH, hL, hG, hT⟩
  have hRc := hC.2.2
  have hkk := hI.2.2.2.1
  have hh := hI.2.2.2.2.1
  have hst := hS.2.1
  have hst2 := hst.2
  have hl10 : (mWay m (nI s) (nI t)).length ≤ 10 := by have := (gWay_le (adj := cAdj I) hS.2.1.2 ht hs).1; rw [way_eq hS hI.2.1 hs ht] at this; exact this
  refine Con_of (by decide +kernel) (Nat.le_of_ble_eq_true rfl) ?_
  refine J_eq (lv' := [(0, .ref (ka S 0 0)), (1, .int (nI s)), (2, .int (nI t)), (3, .int x)]) rfl rfl rfl ?_
  refine J_aload_n 0 rfl dX7_onWay_0 ?_
  refine J_iload_n 1 rfl dX7_onWay_1 ?_
  refine J_iload_n 2 rfl dX7_onWay_2 ?_
  refine cv_7_97 (cells' := 0) (slots' := 0) dX7_onWay_3 (c_X7_checkPair_s hst hs ht hne) (n0 _) ⟨by decide, by decide⟩ rfl rfl (by decide) (by decide) (Nat.le_of_ble_eq_true rfl) (fun _ _ r1 => ?_) (fun _ _ h => h.elim)
  obtain ⟨rfl, rfl⟩ := r1
  refine J_eq (st' := []) rfl rfl rfl ?_
  refine J_aload_n 0 rfl dX7_onWay_6 ?_
  refine gf_7_10 (n0 _) dX7_onWay_7 ?_
  refine J_iload_n 1 rfl dX7_onWay_10 ?_
  refine J_iload_n 2 rfl dX7_onWay_11 ?_
  refine cv_7_125 (cells' := 0) (slots' := 0) dX7_onWay_12 (c_X1_findWay hst ht hs) (n1 _) ⟨by decide, by decide⟩ rfl rfl (by decide) (by decide) (Nat.le_of_ble_eq_true rfl) (fun _ _ r2 => ?_) (fun _ _ h => h.elim)
  obtain ⟨I1, rfl, rfl, hf1, hx1⟩ := r2
  refine J_eq (st' := [.int (nI (gWay (cAdj I) (mS m) t s).length)]) rfl rfl rfl ?_
  rw [way_eq hS hI.2.1 hs ht] at hx1
  have hR1 := rel_f789 hR hf1
  refine J_topeq (nI (mWay m (nI s) (nI t)).length) (by rw [way_eq hS hI.2.1 hs ht]) ?_
  refine J_istore (lv' := [(0, .ref (ka S 0 0)), (1, .int (nI s)), (2, .int (nI t)), (3, .int x), (4, .int (nI (mWay m (nI s) (nI t)).length))]) (by decide) rfl dX7_onWay_15 ?_
  refine J_iload_n 3 rfl dX7_onWay_17 ?_
  refine J_if_lt 27 (by decide) dX7_onWay_18 (fun c3 => ?_) (fun c3 => ?_)
  · skip
    exact J_throwX (E := "java/util/NoSuchElementException") (Y0 := "java/lang/RuntimeException") (ix := 13) (rx := prog_22_method_4_code) (ns := ["java/lang/Exception"]) (text := "no way, or no such index on it") (ik := 128) (is := 130) (ic := 132) rfl nse_code exc_NoSuchElementException (by decide +kernel) cl_7_128 ini_NoSuchElementException at_7_132 fitX_NoSuchElementException (⟨rfl, I1, L, R, ln, qu, lg, rfl, hR1, by omega⟩) (by decide) (Nat.le_of_ble_eq_true rfl) (by decide) (by decide) dX7_onWay_27 dX7_onWay_30 dX7_onWay_31 dX7_onWay_33 dX7_onWay_36
  · skip
    obtain ⟨j, hj, rfl⟩ := nI_of c3
    refine J_iload_n 3 rfl dX7_onWay_21 ?_
    refine J_iload 4 rfl dX7_onWay_22 ?_
    refine J_icmp_lt 37 (by decide) dX7_onWay_24 (fun c4 => ?_) (fun c4 => ?_)
    · have Nc4 : j < ((mWay m (nI s) (nI t)).length) := (nI_ltI (a := j) (b := ((mWay m (nI s) (nI t)).length)) (by omega) (by omega)).mp c4
      exact absurd rfl (hx j (by omega))
    · have Nc4 : ¬ (j < ((mWay m (nI s) (nI t)).length)) := fun q => c4 ((nI_ltI (a := j) (b := ((mWay m (nI s) (nI t)).length)) (by omega) (by omega)).mpr q)
      exact J_throwX (E := "java/util/NoSuchElementException") (Y0 := "java/lang/RuntimeException") (ix := 13) (rx := prog_22_method_4_code) (ns := ["java/lang/Exception"]) (text := "no way, or no such index on it") (ik := 128) (is := 130) (ic := 132) rfl nse_code exc_NoSuchElementException (by decide +kernel) cl_7_128 ini_NoSuchElementException at_7_132 fitX_NoSuchElementException (⟨rfl, I1, L, R, ln, qu, lg, rfl, hR1, by omega⟩) (by decide) (Nat.le_of_ble_eq_true rfl) (by decide) (by decide) dX7_onWay_27 dX7_onWay_30 dX7_onWay_31 dX7_onWay_33 dX7_onWay_36

set_option maxRecDepth 20000 in
set_option maxHeartbeats 1000000 in
theorem c_X7_onWay_e {cy : Nat → ClassId} {S : Nat → Nat → Nat} {I : kI} {L : kL} {R : kRf} {LP : List Nat} {m : Mu} {rc : Nat → Nat} {ln qu : List Nat} {lg B : Nat} {s : Nat} {v : Int32} (hR : Rel m I L R LP rc ln qu lg) (hI : Inv m B) (hB : B < 2 ^ 30) (hlg : lg < 2 ^ 30) (hs : s < mS m) : Con yX7_onWay cX7_onWay 5 (some .int) 9 1 6 cy [.ref (ka S 0 0), .int (nI s), .int (nI s), .int v] (wc cy S I L R LP) kNo (kTX "java/lang/IllegalArgumentException" cy S LP rc m) := by
  obtain ⟨hS, hC, hH, hL, hG, hT⟩ := hR
  have hR : Rel m I L R LP rc ln qu lg := ⟨hS, hC, hH, hL, hG, hT⟩
  have hRc := hC.2.2
  have hkk := hI.2.2.2.1
  have hh := hI.2.2.2.2.1
  have hst := hS.2.1
  have hst2 := hst.2
  refine Con_of (by decide +kernel) (Nat.le_of_ble_eq_true rfl) ?_
  refine J_eq (lv' := [(0, .ref (ka S 0 0)), (1, .int (nI s)), (2, .int (nI s)), (3, .int v)]) rfl rfl rfl ?_
  refine J_aload_n 0 rfl dX7_onWay_0 ?_
  refine J_iload_n 1 rfl dX7_onWay_1 ?_
  refine J_iload_n 2 rfl dX7_onWay_2 ?_
  exact cv_7_97 (cells' := 1) (slots' := 6) dX7_onWay_3 (c_X7_checkPair_e hst hs) (n0 _) ⟨by decide, by decide⟩ rfl rfl (by decide) (by decide) (Nat.le_of_ble_eq_true rfl) (fun _ _ h => h.elim) (fun E9 w9 h9 => by obtain ⟨rfl, rfl⟩ := h9; exact ⟨rfl, I, L, R, ln, qu, lg, rfl, hR, by omega⟩)

set_option maxRecDepth 20000 in
set_option maxHeartbeats 1000000 in
theorem c_X7_onWay_x {cy : Nat → ClassId} {S : Nat → Nat → Nat} {I : kI} {L : kL} {R : kRf} {LP : List Nat} {m : Mu} {rc : Nat → Nat} {ln qu : List Nat} {lg B : Nat} {x y : Int32} {v : Int32} (hR : Rel m I L R LP rc ln qu lg) (hI : Inv m B) (hB : B < 2 ^ 30) (hlg : lg < 2 ^ 30) (hx : ∀ s, s < mS m → x ≠ nI s) : Con yX7_onWay cX7_onWay 5 (some .int) 9 1 6 cy [.ref (ka S 0 0), .int x, .int y, .int v] (wc cy S I L R LP) kNo (kTX "java/lang/IndexOutOfBoundsException" cy S LP rc m) := by
  obtain ⟨hS, hC, hH, hL, hG, hT⟩ := hR
  have hR : Rel m I L R LP rc ln qu lg := ⟨hS, hC, hH, hL, hG, hT⟩
  have hRc := hC.2.2
  have hkk := hI.2.2.2.1
  have hh := hI.2.2.2.2.1
  have hst := hS.2.1
  have hst2 := hst.2
  refine Con_of (by decide +kernel) (Nat.le_of_ble_eq_true rfl) ?_
  refine J_eq (lv' := [(0, .ref (ka S 0 0)), (1, .int x), (2, .int y), (3, .int v)]) rfl rfl rfl ?_
  refine J_aload_n 0 rfl dX7_onWay_0 ?_
  refine J_iload_n 1 rfl dX7_onWay_1 ?_
  refine J_iload_n 2 rfl dX7_onWay_2 ?_
  exact cv_7_97 (cells' := 1) (slots' := 6) dX7_onWay_3 (c_X7_checkPair_x hst hx) (n0 _) ⟨by decide, by decide⟩ rfl rfl (by decide) (by decide) (Nat.le_of_ble_eq_true rfl) (fun _ _ h => h.elim) (fun E9 w9 h9 => by obtain ⟨rfl, rfl⟩ := h9; exact ⟨rfl, I, L, R, ln, qu, lg, rfl, hR, by omega⟩)

set_option maxRecDepth 20000 in
set_option maxHeartbeats 1000000 in
theorem c_X7_onWay_y {cy : Nat → ClassId} {S : Nat → Nat → Nat} {I : kI} {L : kL} {R : kRf} {LP : List Nat} {m : Mu} {rc : Nat → Nat} {ln qu : List Nat} {lg B : Nat} {s : Nat} {x : Int32} {v : Int32} (hR : Rel m I L R LP rc ln qu lg) (hI : Inv m B) (hB : B < 2 ^ 30) (hlg : lg < 2 ^ 30) (hs : s < mS m) (hx : ∀ s, s < mS m → x ≠ nI s) : Con yX7_onWay cX7_onWay 5 (some .int) 9 1 6 cy [.ref (ka S 0 0), .int (nI s), .int x, .int v] (wc cy S I L R LP) kNo (kTX "java/lang/IndexOutOfBoundsException" cy S LP rc m) := by
  obtain ⟨hS, hC, hH, hL, hG, hT⟩ := hR
  have hR : Rel m I L R LP rc ln qu lg := ⟨hS, hC, hH, hL, hG, hT⟩
  have hRc := hC.2.2
  have hkk := hI.2.2.2.1
  have hh := hI.2.2.2.2.1
  have hst := hS.2.1
  have hst2 := hst.2
  refine Con_of (by decide +kernel) (Nat.le_of_ble_eq_true rfl) ?_
  refine J_eq (lv' := [(0, .ref (ka S 0 0)), (1, .int (nI s)), (2, .int x), (3, .int v)]) rfl rfl rfl ?_
  refine J_aload_n 0 rfl dX7_onWay_0 ?_
  refine J_iload_n 1 rfl dX7_onWay_1 ?_
  refine J_iload_n 2 rfl dX7_onWay_2 ?_
  exact cv_7_97 (cells' := 1) (slots' := 6) dX7_onWay_3 (c_X7_checkPair_y hst hs hx) (n0 _) ⟨by decide, by decide⟩ rfl rfl (by decide) (by decide) (Nat.le_of_ble_eq_true rfl) (fun _ _ h => h.elim) (fun E9 w9 h9 => by obtain ⟨rfl, rfl⟩ := h9; exact ⟨rfl, I, L, R, ln, qu, lg, rfl, hR, by omega⟩)

set_option maxRecDepth 20000 in
set_option maxHeartbeats 1000000 in
theorem c_X7_inLine_s {cy : Nat → ClassId} {S : Nat → Nat → Nat} {I : kI} {L : kL} {R : kRf} {LP : List Nat} {m : Mu} {rc : Nat → Nat} {ln qu : List Nat} {lg B : Nat} {x : Int32} {c : Nat} (hR : Rel m I L R LP rc ln qu lg) (hI : Inv m B) (hB : B < 2 ^ 30) (hlg : lg < 2 ^ 30) (hx : lnAt ln x = some c) : Con yX7_inLine cX7_inLine 2 (some .int) 7 0 0 cy [.ref (ka S 0 0), .int x] (wc cy S I L R LP) (fun r w' => r = some (.int (nI c)) ∧ RelX cy S LP rc m w') kF := by
  obtain ⟨hS, hC, hH, hL, hG, hT⟩ := hR
  have hR : Rel m I L R LP rc ln qu lg := ⟨hS, hC, hH, hL, hG, hT⟩
  have hRc := hC.2.2
  have hkk := hI.2.2.2.1
  have hh := hI.2.2.2.2.1
  have hx2 : lnAt (ln.map rc) x = some (rc c) := by rw [lnAt_map, hx]; rfl
  have hcl : c ∈ ln := lnAt_mem hx
  have hc := ((hL.2.2.2.2.2.1 c).mp hcl).1
  have ha : rc c ∈ LP := (hC.2.1.2.2 c hc).2
  refine Con_of (by decide +kernel) (Nat.le_of_ble_eq_true rfl) ?_
  refine J_eq (lv' := [(0, .ref (ka S 0 0)), (1, .int x)]) rfl rfl rfl ?_
  refine J_aload_n 0 rfl dX7_inLine_0 ?_
  refine gf_7_19 (n0 _) dX7_inLine_1 ?_
  refine J_iload_n 1 rfl dX7_inLine_4 ?_
  refine cv_7_214 (cells' := 0) (slots' := 0) dX7_inLine_5 (c_X3_at (lo := ln.map rc) (by rw [List.length_map]; exact hL.2.1) (ln_LP hC hL).1 (by rw [List.length_map]; exact hL.1) (arr_map hL.2.2.2.1 rfl)) (n2 _) ⟨by decide, by decide⟩ rfl rfl (by decide) (by decide) (Nat.le_of_ble_eq_true rfl) (fun _ _ r1 => ?_) (fun _ _ h => h.elim)
  obtain ⟨rfl, rfl⟩ := r1
  refine J_eq (st' := [va_rf (lnAt (ln.map rc) x)]) rfl rfl rfl ?_
  refine J_topv (v' := .ref (rc c)) (by first | rfl | (rw [hx2]; rfl)) ?_
  refine cv_7_105 (i := 0) (cells' := 0) (slots' := 0) dX7_inLine_8 (c_X7_existing_s) ⟨by decide, by decide⟩ rfl rfl (by decide) (by decide) (Nat.le_of_ble_eq_true rfl) (fun _ _ r2 => ?_) (fun _ _ h => h.elim)
  obtain ⟨rfl, rfl⟩ := r2
  refine J_eq (st' := [.ref (rc c)]) rfl rfl rfl ?_
  refine gf_7_109 (n20 (by assumption)) dX7_inLine_11 ?_
  refine J_topeq (nI c) (by exact (hRc c hc).1.1) ?_
  exact J_ireturn rfl (by first | rfl | assumption | simp [kb_nar]) dX7_inLine_14 (⟨rfl, I, L, R, ln, qu, lg, rfl, hR, by omega⟩) (by omega) (by omega)

set_option maxRecDepth 20000 in
set_option maxHeartbeats 1000000 in
theorem c_X7_inLine_x {cy : Nat → ClassId} {S : Nat → Nat → Nat} {I : kI} {L : kL} {R : kRf} {LP : List Nat} {m : Mu} {rc : Nat → Nat} {ln qu : List Nat} {lg B : Nat} {x : Int32} (hR : Rel m I L R LP rc ln qu lg) (hI : Inv m B) (hB : B < 2 ^ 30) (hlg : lg < 2 ^ 30) (hx : lnAt ln x = none) : Con yX7_inLine cX7_inLine 2 (some .int) 7 1 6 cy [.ref (ka S 0 0), .int x] (wc cy S I L R LP) kNo (kTX "java/util/NoSuchElementException" cy S LP rc m) := by
  obtain ⟨hS, hC, hH, hL, hG, hT⟩ := hR
  have hR : Rel m I L R LP rc ln qu lg := ⟨hS, hC, hH, hL, hG, hT⟩
  have hRc := hC.2.2
  have hkk := hI.2.2.2.1
  have hh := hI.2.2.2.2.1
  have hx2 : lnAt (ln.map rc) x = none := by rw [lnAt_map, hx]; rfl
  refine Con_of (by decide +kernel) (Nat.le_of_ble_eq_true rfl) ?_
  refine J_eq (lv' := [(0, .ref (ka S 0 0)), (1, .int x)]) rfl rfl rfl ?_
  refine J_aload_n 0 rfl dX7_inLine_0 ?_
  refine gf_7_19 (n0 _) dX7_inLine_1 ?_
  refine J_iload_n 1 rfl dX7_inLine_4 ?_
  refine cv_7_214 (cells' := 0) (slots' := 0) dX7_inLine_5 (c_X3_at (lo := ln.map rc) (by rw [List.length_map]; exact hL.2.1) (ln_LP hC hL).1 (by rw [List.length_map]; exact hL.1) (arr_map hL.2.2.2.1 rfl)) (n2 _) ⟨by decide, by decide⟩ rfl rfl (by decide) (by decide) (Nat.le_of_ble_eq_true rfl) (fun _ _ r1 => ?_) (fun _ _ h => h.elim)
  obtain ⟨rfl, rfl⟩ := r1
  refine J_eq (st' := [va_rf (lnAt (ln.map rc) x)]) rfl rfl rfl ?_
  refine J_topv (v' := .null) (by first | rfl | (rw [hx2]; rfl)) ?_
  exact cv_7_105 (i := 0) (cells' := 1) (slots' := 6) dX7_inLine_8 (c_X7_existing_n) ⟨by decide, by decide⟩ rfl rfl (by decide) (by decide) (Nat.le_of_ble_eq_true rfl) (fun _ _ h => h.elim) (fun E9 w9 h9 => by obtain ⟨rfl, rfl⟩ := h9; exact ⟨rfl, I, L, R, ln, qu, lg, rfl, hR, by omega⟩)

