/-! the exchange: a minute, the watches, pass -/

set_option maxRecDepth 20000 in
set_option maxHeartbeats 1000000 in
theorem ls_X7_speakAMinute {cy : Nat → ClassId} {S : Nat → Nat → Nat} {I : kI} {L : kL} {R : kRf} {LP : List Nat} {m : Mu} {rc : Nat → Nat} {ln qu : List Nat} {lg B : Nat} {Q : kQT} {h n : Nat} (hR : Rel m I L R LP rc ln qu lg) (hI : Inv m B) (hB : B < 2 ^ 30) (hlg : lg < 2 ^ 30) (hh3 : h < 3) (kk : ∀ (I : kI) (L : kL) (R : kRf) (ln qu : List Nat) (lg : Nat), Rel (mMin h (m, n)).1 I L R LP rc ln qu lg → lg < 2 ^ 31 → J yX7_speakAMinute.cls yX7_speakAMinute.name cX7_speakAMinute 4 (some .int) 3 0 0 cy Q kF 4 [(0, .ref (ka S 0 0)), (1, .int (nI (mMin h (m, n)).2)), (2, .int (nI (h + 1)))] [] (wc cy S I L R LP) 0 0) : J yX7_speakAMinute.cls yX7_speakAMinute.name cX7_speakAMinute 4 (some .int) 3 0 0 cy Q kF 4 [(0, .ref (ka S 0 0)), (1, .int (nI n)), (2, .int (nI h))] [] (wc cy S I L R LP) 0 0 := by
  obtain ⟨hS, hC, hH, hL, hG, hT⟩ := hR
  have hR : Rel m I L R LP rc ln qu lg := ⟨hS, hC, hH, hL, hG, hT⟩
  have hRc := hC.2.2
  have hkk := hI.2.2.2.1
  have hh := hI.2.2.2.2.1
  have e14 := hH.1 h hh3
  have hsp : spkF R (nI h) = R 14 0 h := by
    unfold spkF
    rw [if_pos ⟨nI_pos' (by omega), (nI_ltI (b := 3) (by omega) (by decide)).mpr hh3⟩, nI_toNat (by omega)]
  cases hm : mOn m h with
  | none =>
    rw [hm] at e14
    have e : mMin h (m, n) = (m, n) := by unfold mMin; rw [hm]
    rw [e] at kk
    refine J_iload_n 2 rfl dX7_speakAMinute_4 ?_
    refine J_iconst (v := 3) (by decide) dX7_speakAMinute_5 ?_
    refine J_icmp_ge 61 (by decide) dX7_speakAMinute_6 (fun c1 => ?_) (fun c1 => ?_)
    · exfalso
      have Nc1 : 3 ≤ h := (nI_leI (a := 3) (b := h) (by omega) (by omega)).mp c1
      omega
    have Nc1 : ¬ (3 ≤ h) := fun q => c1 ((nI_leI (a := 3) (b := h) (by omega) (by omega)).mpr q)
    refine J_aload_n 0 rfl dX7_speakAMinute_9 ?_
    refine gf_7_26 (n0 _) dX7_speakAMinute_10 ?_
    refine J_iload_n 2 rfl dX7_speakAMinute_13 ?_
    refine cv_7_210 (cells' := 0) (slots' := 0) dX7_speakAMinute_14 (c_X0_speaker (hH.inLP hC)) (n3 _) ⟨by decide, by decide⟩ rfl rfl (by decide) (by decide) (Nat.le_of_ble_eq_true rfl) (fun _ _ r2 => ?_) (fun _ _ h => h.elim)
    obtain ⟨rfl, rfl⟩ := r2
    refine J_eq (st' := [va_rf (spkF R (nI h))]) rfl rfl rfl ?_
    refine J_topv (v' := .null) (by first | rfl | (rw [hsp, e14]; rfl)) ?_
    refine J_astore_nN (lv' := [(0, .ref (ka S 0 0)), (1, .int (nI n)), (2, .int (nI h)), (3, .null)]) (by decide) rfl dX7_speakAMinute_17 ?_
    refine J_aload_nN 3 rfl dX7_speakAMinute_18 ?_
    refine J_ifnullN 55 (by decide) dX7_speakAMinute_19 ?_
    refine J_iinc (v := (nI (h + 1))) (lv' := [(0, .ref (ka S 0 0)), (1, .int (nI n)), (2, .int (nI (h + 1))), (3, .null)]) 2 rfl (by exact nI_add h 1) (by decide) rfl dX7_speakAMinute_55 ?_
    refine J_goto 4 (by decide) dX7_speakAMinute_58 ?_
    refine J_sub (lv' := [(0, .ref (ka S 0 0)), (1, .int (nI n)), (2, .int (nI (h + 1)))]) [0, 1, 2] rfl ?_
    exact kk _ _ _ _ _ _ hR (by omega)
  | some c =>
    rw [hm] at e14
    have ho := mOn_some hm
    have hc := ho.1
    have ha : rc c ∈ LP := (hC.2.1.2.2 c hc).2
    have a6 := (hRc c hc).1.2.2.2.2.2.2.1
    have hR1 := rel_min hR hc hh3
    have hmn : mOn (mnM m h c) h = some c := hm
    by_cases hp : 0 < m.1 54 c - 1
    · have e : mMin h (m, n) = (mnM m h c, n) := by unfold mMin; rw [hm]; exact if_pos hp
      rw [e] at kk
      refine J_iload_n 2 rfl dX7_speakAMinute_4 ?_
      refine J_iconst (v := 3) (by decide) dX7_speakAMinute_5 ?_
      refine J_icmp_ge 61 (by decide) dX7_speakAMinute_6 (fun c1 => ?_) (fun c1 => ?_)
      · exfalso
        have Nc1 : 3 ≤ h := (nI_leI (a := 3) (b := h) (by omega) (by omega)).mp c1
        omega
      have Nc1 : ¬ (3 ≤ h) := fun q => c1 ((nI_leI (a := 3) (b := h) (by omega) (by omega)).mpr q)
      refine J_aload_n 0 rfl dX7_speakAMinute_9 ?_
      refine gf_7_26 (n0 _) dX7_speakAMinute_10 ?_
      refine J_iload_n 2 rfl dX7_speakAMinute_13 ?_
      refine cv_7_210 (cells' := 0) (slots' := 0) dX7_speakAMinute_14 (c_X0_speaker (hH.inLP hC)) (n3 _) ⟨by decide, by decide⟩ rfl rfl (by decide) (by decide) (Nat.le_of_ble_eq_true rfl) (fun _ _ r2 => ?_) (fun _ _ h => h.elim)
      obtain ⟨rfl, rfl⟩ := r2
      refine J_eq (st' := [va_rf (spkF R (nI h))]) rfl rfl rfl ?_
      refine J_topv (v' := .ref (rc c)) (by first | rfl | (rw [hsp, e14]; rfl)) ?_
      refine J_astore_n (lv' := [(0, .ref (ka S 0 0)), (1, .int (nI n)), (2, .int (nI h)), (3, .ref (rc c))]) (by decide) rfl dX7_speakAMinute_17 ?_
      refine J_aload_n 3 rfl dX7_speakAMinute_18 ?_
      refine J_ifnull dX7_speakAMinute_19 ?_
      refine J_aload_n 0 rfl dX7_speakAMinute_22 ?_
      refine gf_7_26 (n0 _) dX7_speakAMinute_23 ?_
      refine J_iload_n 2 rfl dX7_speakAMinute_26 ?_
      refine cv_7_364 (cells' := 0) (slots' := 0) dX7_speakAMinute_27 (c_X0_countMinute hh3) (n3 _) ⟨by decide, by decide⟩ rfl rfl (by decide) (by decide) (Nat.le_of_ble_eq_true rfl) (fun _ _ r3 => ?_) (fun _ _ h => h.elim)
      obtain ⟨rfl, rfl⟩ := r3
      refine J_eq (st' := []) rfl rfl rfl ?_
      refine J_aload_n 3 rfl dX7_speakAMinute_30 ?_
      refine J_dup rfl dX7_speakAMinute_31 ?_
      refine gf_7_178 (n20 (by assumption)) dX7_speakAMinute_32 ?_
      refine J_topeq (I 20 (rc c) 6) (by rfl) ?_
      refine J_iconst (v := 1) (by decide) dX7_speakAMinute_35 ?_
      refine J_isub dX7_speakAMinute_36 ?_
      refine pf_7_178 (n20 (by assumption)) dX7_speakAMinute_37 ?_
      refine J_aload_n 3 rfl dX7_speakAMinute_40 ?_
      refine gf_7_178 (n20 (by assumption)) dX7_speakAMinute_41 ?_
      refine J_topeq (m.1 54 c - 1) (by simp [ku, a6]) ?_
      refine J_if_gt 55 (by decide) dX7_speakAMinute_44 (fun c4 => ?_) (fun c4 => ?_)
      rotate_left
      · exfalso
        exact absurd hp c4
      refine J_iinc (v := (nI (h + 1))) (lv' := [(0, .ref (ka S 0 0)), (1, .int (nI n)), (2, .int (nI (h + 1))), (3, .ref (rc c))]) 2 rfl (by exact nI_add h 1) (by decide) rfl dX7_speakAMinute_55 ?_
      refine J_goto 4 (by decide) dX7_speakAMinute_58 ?_
      refine J_sub (lv' := [(0, .ref (ka S 0 0)), (1, .int (nI n)), (2, .int (nI (h + 1)))]) [0, 1, 2] rfl ?_
      exact kk _ _ _ _ _ _ hR1 (by omega)
    · have e : mMin h (m, n) = (mEnd (mnM m h c) c, n + 1) := by unfold mMin; rw [hm]; exact if_neg hp
      rw [e] at kk
      refine J_iload_n 2 rfl dX7_speakAMinute_4 ?_
      refine J_iconst (v := 3) (by decide) dX7_speakAMinute_5 ?_
      refine J_icmp_ge 61 (by decide) dX7_speakAMinute_6 (fun c1 => ?_) (fun c1 => ?_)
      · exfalso
        have Nc1 : 3 ≤ h := (nI_leI (a := 3) (b := h) (by omega) (by omega)).mp c1
        omega
      have Nc1 : ¬ (3 ≤ h) := fun q => c1 ((nI_leI (a := 3) (b := h) (by omega) (by omega)).mpr q)
      refine J_aload_n 0 rfl dX7_speakAMinute_9 ?_
      refine gf_7_26 (n0 _) dX7_speakAMinute_10 ?_
      refine J_iload_n 2 rfl dX7_speakAMinute_13 ?_
      refine cv_7_210 (cells' := 0) (slots' := 0) dX7_speakAMinute_14 (c_X0_speaker (hH.inLP hC)) (n3 _) ⟨by decide, by decide⟩ rfl rfl (by decide) (by decide) (Nat.le_of_ble_eq_true rfl) (fun _ _ r2 => ?_) (fun _ _ h => h.elim)
      obtain ⟨rfl, rfl⟩ := r2
      refine J_eq (st' := [va_rf (spkF R (nI h))]) rfl rfl rfl ?_
      refine J_topv (v' := .ref (rc c)) (by first | rfl | (rw [hsp, e14]; rfl)) ?_
      refine J_astore_n (lv' := [(0, .ref (ka S 0 0)), (1, .int (nI n)), (2, .int (nI h)), (3, .ref (rc c))]) (by decide) rfl dX7_speakAMinute_17 ?_
      refine J_aload_n 3 rfl dX7_speakAMinute_18 ?_
      refine J_ifnull dX7_speakAMinute_19 ?_
      refine J_aload_n 0 rfl dX7_speakAMinute_22 ?_
      refine gf_7_26 (n0 _) dX7_speakAMinute_23 ?_
      refine J_iload_n 2 rfl dX7_speakAMinute_26 ?_
      refine cv_7_364 (cells' := 0) (slots' := 0) dX7_speakAMinute_27 (c_X0_countMinute hh3) (n3 _) ⟨by decide, by decide⟩ rfl rfl (by decide) (by decide) (Nat.le_of_ble_eq_true rfl) (fun _ _ r3 => ?_) (fun _ _ h => h.elim)
      obtain ⟨rfl, rfl⟩ := r3
      refine J_eq (st' := []) rfl rfl rfl ?_
      refine J_aload_n 3 rfl dX7_speakAMinute_30 ?_
      refine J_dup rfl dX7_speakAMinute_31 ?_
      refine gf_7_178 (n20 (by assumption)) dX7_speakAMinute_32 ?_
      refine J_topeq (I 20 (rc c) 6) (by rfl) ?_
      refine J_iconst (v := 1) (by decide) dX7_speakAMinute_35 ?_
      refine J_isub dX7_speakAMinute_36 ?_
      refine pf_7_178 (n20 (by assumption)) dX7_speakAMinute_37 ?_
      refine J_aload_n 3 rfl dX7_speakAMinute_40 ?_
      refine gf_7_178 (n20 (by assumption)) dX7_speakAMinute_41 ?_
      refine J_topeq (m.1 54 c - 1) (by simp [ku, a6]) ?_
      refine J_if_gt 55 (by decide) dX7_speakAMinute_44 (fun c4 => ?_) (fun c4 => ?_)
      · exfalso
        exact absurd c4 hp
      refine J_aload_n 0 rfl dX7_speakAMinute_47 ?_
      refine J_aload_n 3 rfl dX7_speakAMinute_48 ?_
      refine cv_7_367 (cells' := 0) (slots' := 0) dX7_speakAMinute_49 (c_X7_end hR1 (mn_inv hI) hB hlg (c := c) hmn hh3) (n0 _) ⟨by decide, by decide⟩ rfl rfl (by decide) (by decide) (Nat.le_of_ble_eq_true rfl) (fun _ _ r5 => ?_) (fun _ _ h => h.elim)
      obtain ⟨rfl, I1, L1, R1, ln1, qu1, lg1, rfl, hR2, hl1⟩ := r5
      refine J_eq (st' := []) rfl rfl rfl ?_
      refine J_iinc (v := (nI (n + 1))) (lv' := [(0, .ref (ka S 0 0)), (1, .int (nI (n + 1))), (2, .int (nI h)), (3, .ref (rc c))]) 1 rfl (by exact nI_add n 1) (by decide) rfl dX7_speakAMinute_52 ?_
      refine J_iinc (v := (nI (h + 1))) (lv' := [(0, .ref (ka S 0 0)), (1, .int (nI (n + 1))), (2, .int (nI (h + 1))), (3, .ref (rc c))]) 2 rfl (by exact nI_add h 1) (by decide) rfl dX7_speakAMinute_55 ?_
      refine J_goto 4 (by decide) dX7_speakAMinute_58 ?_
      refine J_sub (lv' := [(0, .ref (ka S 0 0)), (1, .int (nI (n + 1))), (2, .int (nI (h + 1)))]) [0, 1, 2] rfl ?_
      exact kk _ _ _ _ _ _ hR2 hl1

set_option maxRecDepth 20000 in
set_option maxHeartbeats 1000000 in
theorem c_X7_speakAMinute {cy : Nat → ClassId} {S : Nat → Nat → Nat} {I : kI} {L : kL} {R : kRf} {LP : List Nat} {m : Mu} {rc : Nat → Nat} {ln qu : List Nat} {lg B : Nat} (hR : Rel m I L R LP rc ln qu lg) (hI : Inv m B) (hB : B + 6 < 2 ^ 30) (hlg : lg < 2 ^ 30) : Con yX7_speakAMinute cX7_speakAMinute 4 (some .int) 3 0 0 cy [.ref (ka S 0 0)] (wc cy S I L R LP) (fun r w' => r = some (.int (nI (mMins m).2)) ∧ RelX cy S LP rc (mMins m).1 w') kF := by
  obtain ⟨hS, hC, hH, hL, hG, hT⟩ := hR
  have hR : Rel m I L R LP rc ln qu lg := ⟨hS, hC, hH, hL, hG, hT⟩
  have hRc := hC.2.2
  have hkk := hI.2.2.2.1
  have hh := hI.2.2.2.2.1
  have i1 : Inv (mMin 0 (m, 0)).1 (B + 1) := min_inv hI
  have i2 : Inv (mMin 1 (mMin 0 (m, 0))).1 (B + 2) := min_inv (n := _) i1
  refine Con_of (by decide +kernel) (Nat.le_of_ble_eq_true rfl) ?_
  refine J_eq (lv' := [(0, .ref (ka S 0 0))]) rfl rfl rfl ?_
  refine J_iconst (v := 0) (by decide) dX7_speakAMinute_0 ?_
  refine J_istore_n (lv' := [(0, .ref (ka S 0 0)), (1, .int 0)]) (by decide) rfl dX7_speakAMinute_1 ?_
  refine J_iconst (v := 0) (by decide) dX7_speakAMinute_2 ?_
  refine J_istore_n (lv' := [(0, .ref (ka S 0 0)), (1, .int 0), (2, .int 0)]) (by decide) rfl dX7_speakAMinute_3 ?_
  refine J_eq (lv' := [(0, .ref (ka S 0 0)), (1, .int (nI 0)), (2, .int (nI 0))]) rfl rfl rfl ?_
  refine ls_X7_speakAMinute (h := 0) (n := 0) hR hI (by omega) hlg (by decide) (fun I1 L1 R1 ln1 qu1 lg1 hR1 hl1 => ?_)
  refine ls_X7_speakAMinute (h := 1) hR1 i1 (by omega) (lg_lt hR1.2.2.2.2.1 i1.2.2.2.2.2.2.1 (by omega) hl1) (by decide) (fun I2 L2 R2 ln2 qu2 lg2 hR2 hl2 => ?_)
  refine ls_X7_speakAMinute (h := 2) hR2 i2 (by omega) (lg_lt hR2.2.2.2.2.1 i2.2.2.2.2.2.2.1 (by omega) hl2) (by decide) (fun I3 L3 R3 ln3 qu3 lg3 hR3 hl3 => ?_)
  refine J_iload_n 2 rfl dX7_speakAMinute_4 ?_
  refine J_iconst (v := 3) (by decide) dX7_speakAMinute_5 ?_
  refine J_icmp_ge 61 (by decide) dX7_speakAMinute_6 (fun c1 => ?_) (fun c1 => ?_)
  rotate_left
  · exfalso
    have Nc1 : ¬ (3 ≤ 3) := fun q => c1 ((nI_leI (a := 3) (b := 3) (by omega) (by omega)).mpr q)
    omega
  have Nc1 : 3 ≤ 3 := (nI_leI (a := 3) (b := 3) (by omega) (by omega)).mp c1
  refine J_iload_n 1 rfl dX7_speakAMinute_61 ?_
  exact J_ireturn rfl (by first | rfl | assumption | simp [kb_nar]) dX7_speakAMinute_62 (⟨rfl, _, _, _, _, _, _, rfl, hR3, hl3⟩) (by omega) (by omega)

