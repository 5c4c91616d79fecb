/-! the public calls that change: cancel -/
section CA
variable {m : Mu} {I : kI} {L : kL} {R : kRf} {LP : List Nat} {rc : Nat → Nat} {ln qu : List Nat} {lg B : Nat}
theorem turn_C (q : Nat) : mC (mTurn q m) = mC m := by
  unfold mTurn; split
  · exact begin_C _
  · rfl
theorem turns_C (f : Nat) {m : Mu} : mC (mTurns f m) = mC m := by
  induction f generalizing m with
  | zero => rfl
  | succ f ih => rw [mTurns_s, ih, turn_C]
theorem speak_C : mC (mSpeak m) = mC m := by unfold mSpeak; rw [turns_C]
def caM (m : Mu) (c : Nat) : Mu := mLog (ms m 55 c 99) 99 (nI c)
theorem ca_C (c : Nat) : mC (mSpeak (caM m c)) = mC m := by rw [speak_C]; rfl
theorem ca_inv {c : Nat} (hI : Inv m B) (hc : c < mC m) (hs : m.1 55 c = 115 ∨ m.1 55 c = 119) : Inv (caM m c) (B + 1) := inv_log (inv_over hI hc hs (Or.inr rfl)) 99 (nI c)
theorem rel_cw {R' : kRf} {c : Nat} (hR : Rel m I L R LP rc ln qu lg) (hc : c < mC m) (hw : m.1 55 c = 119) (h1 : arrL R' 12 24 ((ln.map rc).erase (rc c))) (h2 : arrL R' 13 24 ((qu.map rc).erase (rc c))) (h5 : ∀ k' i', (k', i') ≠ (12, 0) → (k', i') ≠ (13, 0) → R' k' i' = R k' i') :
    Rel (ms m 55 c 99) (ku (ku I 2 0 2 (nI ((ln.map rc).length - 1))) 20 (rc c) 7 99) L R' LP rc (ln.erase c) (qu.erase c) lg := by
  obtain ⟨hS, hC, hH, hL, hG, hT⟩ := hR
  have hwt : mWait m c = true := by unfold mWait; exact decide_eq_true hw
  have hs : ∀ i, mSpk (ms m 55 c 99) i = mSpk m i := by
    intro i
    unfold mSpk
    by_cases q : i = c
    · subst q; rw [ms_eq, hw]; decide
    · rw [ms_j _ _ _ q]
  have ho : ∀ h, mOn (ms m 55 c 99) h = mOn m h := fun h => find_congr fun i _ => by rw [hs]; rfl
  refine ⟨hS, relC_c hC rfl (fun i _ => by rw [h5 5 0 (pair_ne (by decide)) (pair_ne (by decide))]) rfl (fun i hi => ?_), ⟨fun h h3 => by rw [h5 14 0 (pair_ne (by decide)) (pair_ne (by decide)), ho]; exact hH.1 h h3, hH.2⟩, ?_, hG, hT⟩
  · have h := hC.2.2 i hi
    obtain ⟨a0, a1, a2, a3, a4, a5, a6, a7, a8, a9⟩ := h.1
    by_cases q : i = c
    · subst q
      refine ⟨⟨?_, ?_, ?_, ?_, ?_, ?_, ?_, ?_, ?_, ?_⟩, fun z => ?_⟩
      any_goals (simp [ku, ms, mRank, a0, a1, a2, a3, a4, a5, a6, a8, a9]; done)
      rw [hs] at z
      unfold mSpk at z
      rw [hw] at z
      exact absurd z (by decide)
    · have hne := rc_ne hC hi hc q
      refine ⟨⟨?_, ?_, ?_, ?_, ?_, ?_, ?_, ?_, ?_, ?_⟩, fun z => ?_⟩
      any_goals (simp [ku, ms, mRank, q, hne, a0, a1, a2, a3, a4, a5, a6, a7, a8, a9]; done)
      rw [hs] at z
      obtain ⟨b0, b1, b2⟩ := h.2 z
      refine ⟨?_, ?_, ?_⟩ <;> simp [ku, ms, q, hne, b0, b1, b2]
  · refine relL_leave hC hL ((hL.2.2.2.2.2.1 c).mpr ⟨hc, hwt⟩) rfl (fun i _ => ?_) (fun i _ => rfl) ?_ h1 h2
    · unfold mWait
      by_cases q : i = c
      · subst q; rw [ms_eq]; simp
      · rw [ms_j _ _ _ q]; simp [q]
    · rw [ku_k (k := 20) (k' := 2) _ _ _ _ (by decide), ku_eq]
end CA

set_option maxRecDepth 20000 in
set_option maxHeartbeats 1000000 in
theorem c_X7_cancel_sp {cy : Nat → ClassId} {S : Nat → Nat → Nat} {I : kI} {L : kL} {R : kRf} {LP : List Nat} {m : Mu} {rc : Nat → Nat} {ln qu : List Nat} {lg B : Nat} {i : Nat} (hR : Rel m I L R LP rc ln qu lg) (hI : Inv m B) (hB : B + 4100 < 2 ^ 30) (hlg : lg < 2 ^ 30) (hi : i < mC m) (hsp : m.1 55 i = 115) : Con yX7_cancel cX7_cancel 3 (some .int) 11 0 0 cy [.ref (ka S 0 0), .int (nI i)] (wc cy S I L R LP) (fun r w' => r = some (.int ((mSpeak (caM m i)).1 54 i)) ∧ RelX cy S LP rc (mSpeak (caM m i)) w') kF := by
  obtain ⟨hS, hC, hH, hL, hG, hT⟩ := hR
  have hR : Rel m I L R LP rc ln qu lg := ⟨hS, hC, hH, hL, hG, hT⟩
  have hRc := hC.2.2
  have hkk := hI.2.2.2.1
  have hh := hI.2.2.2.2.1
  obtain ⟨a0, a1, a2, a3, a4, a5, a6, a7, a8, a9⟩ := (hRc i hi).1
  have ha : rc i ∈ LP := (hC.2.1.2.2 i hi).2
  have hb := (hRc i hi).2 (by unfold mSpk; exact decide_eq_true hsp)
  obtain ⟨h0, h03, h56, hm⟩ := mOn_spk hh hi (by unfold mSpk; exact decide_eq_true hsp)
  have hch : I 20 (rc i) 8 = nI h0 := hb.1.trans h56
  refine Con_of (by decide +kernel) (Nat.le_of_ble_eq_true rfl) ?_
  refine J_eq (lv' := [(0, .ref (ka S 0 0)), (1, .int (nI i))]) rfl rfl rfl ?_
  refine J_aload_n 0 rfl dX7_cancel_0 ?_
  refine J_iload_n 1 rfl dX7_cancel_1 ?_
  refine cv_7_153 (cells' := 0) (slots' := 0) dX7_cancel_2 (c_X7_callNumbered_s hC.2.1 hi) (n0 _) ⟨by decide, by decide⟩ rfl rfl (by decide) (by decide) (Nat.le_of_ble_eq_true rfl) (fun _ _ r1 => ?_) (fun _ _ h => h.elim)
  obtain ⟨rfl, rfl⟩ := r1
  refine J_eq (st' := [.ref (rc i)]) rfl rfl rfl ?_
  refine J_astore_n (lv' := [(0, .ref (ka S 0 0)), (1, .int (nI i)), (2, .ref (rc i))]) (by decide) rfl dX7_cancel_5 ?_
  refine J_aload_n 2 rfl dX7_cancel_6 ?_
  refine cv_7_156 (cells' := 0) (slots' := 0) dX7_cancel_7 (c_X5_isOpen ha) (n20 (by assumption)) ⟨by decide, by decide⟩ rfl rfl (by decide) (by decide) (Nat.le_of_ble_eq_true rfl) (fun _ _ r2 => ?_) (fun _ _ h => h.elim)
  obtain ⟨rfl, rfl⟩ := r2
  refine J_eq (st' := [.int (kb (openF I (rc i)))]) rfl rfl rfl ?_
  refine J_topeq 1 (by unfold openF; rw [a7, hsp]; rfl) ?_
  refine J_if_ne 23 (by decide) dX7_cancel_10 (fun c3 => ?_) (fun c3 => ?_)
  rotate_left
  · exact absurd c3 (by decide)
  refine J_aload_n 2 rfl dX7_cancel_23 ?_
  refine gf_7_161 (n20 (by assumption)) dX7_cancel_24 ?_
  refine J_topeq 115 (by exact a7.trans hsp) ?_
  refine J_bipush (v := 115) (by decide) dX7_cancel_27 ?_
  refine J_icmp_ne 43 (by decide) dX7_cancel_29 (fun c4 => ?_) (fun c4 => ?_)
  · exact absurd (by decide) c4
  refine J_aload_n 0 rfl dX7_cancel_32 ?_
  refine gf_7_26 (n0 _) dX7_cancel_33 ?_
  refine J_aload_n 2 rfl dX7_cancel_36 ?_
  refine cv_7_165 (cells' := 0) (slots' := 0) dX7_cancel_37 (c_X0_free (a := rc i) (h := h0) ha hch h03) (n3 _) ⟨by decide, by decide⟩ rfl rfl (by decide) (by decide) (Nat.le_of_ble_eq_true rfl) (fun _ _ r5 => ?_) (fun _ _ h => h.elim)
  obtain ⟨rfl, rfl⟩ := r5
  refine J_eq (st' := []) rfl rfl rfl ?_
  refine J_goto 51 (by decide) dX7_cancel_40 ?_
  refine J_aload_n 2 rfl dX7_cancel_51 ?_
  refine J_bipush (v := 99) (by decide) dX7_cancel_52 ?_
  refine pf_7_161 (by first | assumption | decide | simp) (by first | assumption | decide | simp) (n20 (by assumption)) dX7_cancel_54 ?_
  have hR1 := rel_over (v := 99) hR hh hm h03 (by decide) (by decide)
  have hG1 := hR1.2.2.2.2.1
  have hR2 : Rel (caM m i) _ _ _ _ _ _ _ _ := rel_log hR1 (by omega) 99 (nI i)
  have hI2 := ca_inv hI hi (by first | exact Or.inl hsp | exact Or.inr hsp)
  have hlg2 := lg_lt hR2.2.2.2.2.1 hI2.2.2.2.2.2.2.1 (by omega) (by omega)
  refine J_aload_n 0 rfl dX7_cancel_57 ?_
  refine gf_7_33 (n0 _) dX7_cancel_58 ?_
  refine J_aload_n 0 rfl dX7_cancel_61 ?_
  refine gf_7_171 (n0 _) dX7_cancel_62 ?_
  refine J_topeq (m.1 30 26) (by exact hT.1) ?_
  refine J_bipush (v := 99) (by decide) dX7_cancel_65 ?_
  refine J_iload_n 1 rfl dX7_cancel_67 ?_
  refine cv_7_174 (cells' := 0) (slots' := 0) dX7_cancel_68 (c_X4_write (nx := lg % 60) (kp := min lg 60) (hG1.2.2.1) (hG1.2.2.2.1) (by omega) (by omega) (by decide) (by decide)) (n4 _) ⟨by decide, by decide⟩ rfl rfl (by decide) (by decide) (Nat.le_of_ble_eq_true rfl) (fun _ _ r6 => ?_) (fun _ _ h => h.elim)
  obtain ⟨rfl, rfl⟩ := r6
  refine J_eq (st' := []) rfl rfl rfl ?_
  refine J_aload_n 0 rfl dX7_cancel_71 ?_
  refine cv_7_67 (cells' := 0) (slots' := 0) dX7_cancel_72 (c_X7_letSpeak hR2 hI2 (by omega) hlg2) (n0 _) ⟨by decide, by decide⟩ rfl rfl (by decide) (by decide) (Nat.le_of_ble_eq_true rfl) (fun _ _ r7 => ?_) (fun _ _ h => h.elim)
  obtain ⟨rfl, I4, L4, R4, ln4, qu4, lg4, rfl, hR4, hl4⟩ := r7
  refine J_eq (st' := []) rfl rfl rfl ?_
  have a6' := (hR4.2.1.2.2 i (by rw [ca_C]; exact hi)).1.2.2.2.2.2.2.1
  refine J_aload_n 2 rfl dX7_cancel_75 ?_
  refine gf_7_178 (n20 (by assumption)) dX7_cancel_76 ?_
  refine J_topeq ((mSpeak (caM m i)).1 54 i) (by exact a6') ?_
  exact J_ireturn rfl (by first | rfl | assumption | simp [kb_nar]) dX7_cancel_79 (⟨rfl, I4, L4, R4, ln4, qu4, lg4, rfl, hR4, hl4⟩) (by omega) (by omega)

set_option maxRecDepth 20000 in
set_option maxHeartbeats 1000000 in
theorem c_X7_cancel_w {cy : Nat → ClassId} {S : Nat → Nat → Nat} {I : kI} {L : kL} {R : kRf} {LP : List Nat} {m : Mu} {rc : Nat → Nat} {ln qu : List Nat} {lg B : Nat} {i : Nat} (hR : Rel m I L R LP rc ln qu lg) (hI : Inv m B) (hB : B + 4100 < 2 ^ 30) (hlg : lg < 2 ^ 30) (hi : i < mC m) (hsp : m.1 55 i = 119) : Con yX7_cancel cX7_cancel 3 (some .int) 11 0 0 cy [.ref (ka S 0 0), .int (nI i)] (wc cy S I L R LP) (fun r w' => r = some (.int ((mSpeak (caM m i)).1 54 i)) ∧ RelX cy S LP rc (mSpeak (caM m i)) w') kF := by
  obtain ⟨hS, hC, hH, hL, hG, hT⟩ := hR
  have hR : Rel m I L R LP rc ln qu lg := ⟨hS, hC, hH, hL, hG, hT⟩
  have hRc := hC.2.2
  have hkk := hI.2.2.2.1
  have hh := hI.2.2.2.2.1
  obtain ⟨a0, a1, a2, a3, a4, a5, a6, a7, a8, a9⟩ := (hRc i hi).1
  have ha : rc i ∈ LP := (hC.2.1.2.2 i hi).2
  have hcl : i ∈ ln := (hL.2.2.2.2.2.1 i).mpr ⟨hi, by unfold mWait; exact decide_eq_true hsp⟩
  refine Con_of (by decide +kernel) (Nat.le_of_ble_eq_true rfl) ?_
  refine J_eq (lv' := [(0, .ref (ka S 0 0)), (1, .int (nI i))]) rfl rfl rfl ?_
  refine J_aload_n 0 rfl dX7_cancel_0 ?_
  refine J_iload_n 1 rfl dX7_cancel_1 ?_
  refine cv_7_153 (cells' := 0) (slots' := 0) dX7_cancel_2 (c_X7_callNumbered_s hC.2.1 hi) (n0 _) ⟨by decide, by decide⟩ rfl rfl (by decide) (by decide) (Nat.le_of_ble_eq_true rfl) (fun _ _ r1 => ?_) (fun _ _ h => h.elim)
  obtain ⟨rfl, rfl⟩ := r1
  refine J_eq (st' := [.ref (rc i)]) rfl rfl rfl ?_
  refine J_astore_n (lv' := [(0, .ref (ka S 0 0)), (1, .int (nI i)), (2, .ref (rc i))]) (by decide) rfl dX7_cancel_5 ?_
  refine J_aload_n 2 rfl dX7_cancel_6 ?_
  refine cv_7_156 (cells' := 0) (slots' := 0) dX7_cancel_7 (c_X5_isOpen ha) (n20 (by assumption)) ⟨by decide, by decide⟩ rfl rfl (by decide) (by decide) (Nat.le_of_ble_eq_true rfl) (fun _ _ r2 => ?_) (fun _ _ h => h.elim)
  obtain ⟨rfl, rfl⟩ := r2
  refine J_eq (st' := [.int (kb (openF I (rc i)))]) rfl rfl rfl ?_
  refine J_topeq 1 (by unfold openF; rw [a7, hsp]; rfl) ?_
  refine J_if_ne 23 (by decide) dX7_cancel_10 (fun c3 => ?_) (fun c3 => ?_)
  rotate_left
  · exact absurd c3 (by decide)
  refine J_aload_n 2 rfl dX7_cancel_23 ?_
  refine gf_7_161 (n20 (by assumption)) dX7_cancel_24 ?_
  refine J_topeq 119 (by exact a7.trans hsp) ?_
  refine J_bipush (v := 115) (by decide) dX7_cancel_27 ?_
  refine J_icmp_ne 43 (by decide) dX7_cancel_29 (fun c4 => ?_) (fun c4 => ?_)
  rotate_left
  · exact absurd c4 (by decide)
  refine J_aload_n 0 rfl dX7_cancel_43 ?_
  refine gf_7_19 (n0 _) dX7_cancel_44 ?_
  refine J_aload_n 2 rfl dX7_cancel_47 ?_
  refine cv_7_168 (cells' := 0) (slots' := 0) dX7_cancel_48 (c_X3_leave (lo := ln.map rc) (lq := qu.map rc) (a := rc i) (by rw [List.length_map]; exact hL.2.1) (ln_LP hC hL).1 (by rw [List.length_map]; exact hL.1) (arr_map hL.2.2.2.1 rfl) (by rw [List.length_map, hL.2.2.1]; exact hL.2.1) (ln_LP hC hL).2 (by rw [List.length_map, hL.2.2.1]; exact hL.1) (arr_map hL.2.2.2.2.1 rfl) (List.mem_map_of_mem hcl) (List.mem_map_of_mem ((hL.2.2.2.2.2.2.1 i).mpr hcl))) (n2 _) ⟨by decide, by decide⟩ rfl rfl (by decide) (by decide) (Nat.le_of_ble_eq_true rfl) (fun _ _ r5 => ?_) (fun _ _ h => h.elim)
  obtain ⟨R1, rfl, rfl, j1, j2, j3⟩ := r5
  refine J_eq (st' := []) rfl rfl rfl ?_
  refine J_aload_n 2 rfl dX7_cancel_51 ?_
  refine J_bipush (v := 99) (by decide) dX7_cancel_52 ?_
  refine pf_7_161 (by first | assumption | decide | simp) (by first | assumption | decide | simp) (n20 (by assumption)) dX7_cancel_54 ?_
  have hR1 := rel_cw hR hi hsp j1 j2 j3
  have hG1 := hR1.2.2.2.2.1
  have hR2 : Rel (caM m i) _ _ _ _ _ _ _ _ := rel_log hR1 (by omega) 99 (nI i)
  have hI2 := ca_inv hI hi (by first | exact Or.inl hsp | exact Or.inr hsp)
  have hlg2 := lg_lt hR2.2.2.2.2.1 hI2.2.2.2.2.2.2.1 (by omega) (by omega)
  refine J_aload_n 0 rfl dX7_cancel_57 ?_
  refine gf_7_33 (n0 _) dX7_cancel_58 ?_
  refine J_aload_n 0 rfl dX7_cancel_61 ?_
  refine gf_7_171 (n0 _) dX7_cancel_62 ?_
  refine J_topeq (m.1 30 26) (by exact hT.1) ?_
  refine J_bipush (v := 99) (by decide) dX7_cancel_65 ?_
  refine J_iload_n 1 rfl dX7_cancel_67 ?_
  refine cv_7_174 (cells' := 0) (slots' := 0) dX7_cancel_68 (c_X4_write (nx := lg % 60) (kp := min lg 60) (hG1.2.2.1) (hG1.2.2.2.1) (by omega) (by omega) (by decide) (by decide)) (n4 _) ⟨by decide, by decide⟩ rfl rfl (by decide) (by decide) (Nat.le_of_ble_eq_true rfl) (fun _ _ r6 => ?_) (fun _ _ h => h.elim)
  obtain ⟨rfl, rfl⟩ := r6
  refine J_eq (st' := []) rfl rfl rfl ?_
  refine J_aload_n 0 rfl dX7_cancel_71 ?_
  refine cv_7_67 (cells' := 0) (slots' := 0) dX7_cancel_72 (c_X7_letSpeak hR2 hI2 (by omega) hlg2) (n0 _) ⟨by decide, by decide⟩ rfl rfl (by decide) (by decide) (Nat.le_of_ble_eq_true rfl) (fun _ _ r7 => ?_) (fun _ _ h => h.elim)
  obtain ⟨rfl, I4, L4, R4, ln4, qu4, lg4, rfl, hR4, hl4⟩ := r7
  refine J_eq (st' := []) rfl rfl rfl ?_
  have a6' := (hR4.2.1.2.2 i (by rw [ca_C]; exact hi)).1.2.2.2.2.2.2.1
  refine J_aload_n 2 rfl dX7_cancel_75 ?_
  refine gf_7_178 (n20 (by assumption)) dX7_cancel_76 ?_
  refine J_topeq ((mSpeak (caM m i)).1 54 i) (by exact a6') ?_
  exact J_ireturn rfl (by first | rfl | assumption | simp [kb_nar]) dX7_cancel_79 (⟨rfl, I4, L4, R4, ln4, qu4, lg4, rfl, hR4, hl4⟩) (by omega) (by omega)

set_option maxRecDepth 20000 in
set_option maxHeartbeats 1000000 in
theorem c_X7_cancel_o {cy : Nat → ClassId} {S : Nat → Nat → Nat} {I : kI} {L : kL} {R : kRf} {LP : List Nat} {m : Mu} {rc : Nat → Nat} {ln qu : List Nat} {lg B : Nat} {i : Nat} (hR : Rel m I L R LP rc ln qu lg) (hI : Inv m B) (hB : B < 2 ^ 30) (hlg : lg < 2 ^ 30) (hi : i < mC m) (h1 : m.1 55 i ≠ 119) (h2 : m.1 55 i ≠ 115) : Con yX7_cancel cX7_cancel 3 (some .int) 8 1 6 cy [.ref (ka S 0 0), .int (nI i)] (wc cy S I L R LP) kNo (kTX "java/lang/IllegalStateException" cy S LP rc m) := by
  obtain ⟨hS, hC, hH, hL, hG, hT⟩ := hR
  have hR : Rel m I L R LP rc ln qu lg := ⟨hS, hC, hH, hL, hG, hT⟩
  have hRc := hC.2.2
  have hkk := hI.2.2.2.1
  have hh := hI.2.2.2.2.1
  obtain ⟨a0, a1, a2, a3, a4, a5, a6, a7, a8, a9⟩ := (hRc i hi).1
  have ha : rc i ∈ LP := (hC.2.1.2.2 i hi).2
  refine Con_of (by decide +kernel) (Nat.le_of_ble_eq_true rfl) ?_
  refine J_eq (lv' := [(0, .ref (ka S 0 0)), (1, .int (nI i))]) rfl rfl rfl ?_
  refine J_aload_n 0 rfl dX7_cancel_0 ?_
  refine J_iload_n 1 rfl dX7_cancel_1 ?_
  refine cv_7_153 (cells' := 0) (slots' := 0) dX7_cancel_2 (c_X7_callNumbered_s hC.2.1 hi) (n0 _) ⟨by decide, by decide⟩ rfl rfl (by decide) (by decide) (Nat.le_of_ble_eq_true rfl) (fun _ _ r1 => ?_) (fun _ _ h => h.elim)
  obtain ⟨rfl, rfl⟩ := r1
  refine J_eq (st' := [.ref (rc i)]) rfl rfl rfl ?_
  refine J_astore_n (lv' := [(0, .ref (ka S 0 0)), (1, .int (nI i)), (2, .ref (rc i))]) (by decide) rfl dX7_cancel_5 ?_
  refine J_aload_n 2 rfl dX7_cancel_6 ?_
  refine cv_7_156 (cells' := 0) (slots' := 0) dX7_cancel_7 (c_X5_isOpen ha) (n20 (by assumption)) ⟨by decide, by decide⟩ rfl rfl (by decide) (by decide) (Nat.le_of_ble_eq_true rfl) (fun _ _ r2 => ?_) (fun _ _ h => h.elim)
  obtain ⟨rfl, rfl⟩ := r2
  refine J_eq (st' := [.int (kb (openF I (rc i)))]) rfl rfl rfl ?_
  refine J_topeq 0 (by unfold openF; rw [a7, decide_eq_false h1, decide_eq_false h2]; rfl) ?_
  refine J_if_ne 23 (by decide) dX7_cancel_10 (fun c3 => ?_) (fun c3 => ?_)
  · exact absurd (by decide) c3
  exact J_throw (E := "java/lang/IllegalStateException") (text := "the call neither waits nor speaks") (ik := 58) (is := 159) (ic := 62) exc_IllegalStateException (by decide +kernel) cl_7_58 ini_IllegalStateException at_7_62 fit_IllegalStateException (⟨rfl, I, L, R, ln, qu, lg, rfl, hR, by omega⟩) (by decide) (Nat.le_of_ble_eq_true rfl) (by decide) (by decide) dX7_cancel_13 dX7_cancel_16 dX7_cancel_17 dX7_cancel_19 dX7_cancel_22

set_option maxRecDepth 20000 in
set_option maxHeartbeats 1000000 in
theorem c_X7_cancel_x {cy : Nat → ClassId} {S : Nat → Nat → Nat} {I : kI} {L : kL} {R : kRf} {LP : List Nat} {m : Mu} {rc : Nat → Nat} {ln qu : List Nat} {lg B : Nat} {x : Int32} (hR : Rel m I L R LP rc ln qu lg) (hI : Inv m B) (hB : B < 2 ^ 30) (hlg : lg < 2 ^ 30) (hx : ∀ s, s < mC m → x ≠ nI s) : Con yX7_cancel cX7_cancel 3 (some .int) 8 1 6 cy [.ref (ka S 0 0), .int x] (wc cy S I L R LP) kNo (kTX "java/util/NoSuchElementException" cy S LP rc m) := by
  obtain ⟨hS, hC, hH, hL, hG, hT⟩ := hR
  have hR : Rel m I L R LP rc ln qu lg := ⟨hS, hC, hH, hL, hG, hT⟩
  have hRc := hC.2.2
  have hkk := hI.2.2.2.1
  have hh := hI.2.2.2.2.1
  refine Con_of (by decide +kernel) (Nat.le_of_ble_eq_true rfl) ?_
  refine J_eq (lv' := [(0, .ref (ka S 0 0)), (1, .int x)]) rfl rfl rfl ?_
  refine J_aload_n 0 rfl dX7_cancel_0 ?_
  refine J_iload_n 1 rfl dX7_cancel_1 ?_
  exact cv_7_153 (cells' := 1) (slots' := 6) dX7_cancel_2 (c_X7_callNumbered_x hC.2.1 hx) (n0 _) ⟨by decide, by decide⟩ rfl rfl (by decide) (by decide) (Nat.le_of_ble_eq_true rfl) (fun _ _ h => h.elim) (fun E9 w9 h9 => by obtain ⟨rfl, rfl⟩ := h9; exact ⟨rfl, I, L, R, ln, qu, lg, rfl, hR, by omega⟩)

