/-! the exchange: the watches; pass -/
theorem room_eq {m : Mu} {I : kI} {L : kL} {R : kRf} {LP : List Nat} {rc : Nat → Nat} {ln qu : List Nat} {lg B : Nat} (hR : Rel m I L R LP rc ln qu lg) (hI : Inv m B) : (decide (mC m < 150) && decide (nI ln.length + busyF R < 24)) = !mFull m := by
  obtain ⟨hS, hC, hH, hL, hG, hT⟩ := hR
  have h1 := hI.2.2.1
  have h2 := hI.2.2.2.2.2.1
  have h3 := ln_len hL
  have e : (nI (mMany m 119 + mMany m 115) < 24) ↔ mMany m 119 + mMany m 115 < 24 := nI_ltI (b := 24) (by omega) (by decide)
  rw [busy_eq hC hH hI.2.2.2.2.1, h3, nI_add]
  unfold mFull
  by_cases a : mC m < 150 <;> by_cases b : mMany m 119 + mMany m 115 < 24
  · have a2 : ¬ mC m = 150 := by omega
    have b2 : ¬ mMany m 119 + mMany m 115 = 24 := by omega
    simp [e, a, b, a2, b2]
  · have b2 : mMany m 119 + mMany m 115 = 24 := by omega
    simp [e, b2]
    intro _; decide
  · have a2 : mC m = 150 := by omega
    simp [a2]
  · have a2 : mC m = 150 := by omega
    simp [a2]
theorem due_eq {m : Mu} {I : kI} {L : kL} (hS : relS m I) (hT : relT m I L) {s : Nat} (hs : s < mS m) : misF I s (I 0 0 6) = mDue m s := by
  have h10 := hS.2.1.2
  obtain ⟨p, q, r⟩ := hS.2.2.1 s (by omega)
  obtain ⟨p2, q2, r2⟩ := hS.2.2.2 s hs
  unfold misF watF mDue
  rw [p, q, r2, hT.1]
  by_cases h : m.1 43 s = 0 <;> simp [h]

set_option maxRecDepth 20000 in
set_option maxHeartbeats 1000000 in
theorem l_X7_lookAtWatches {cy : Nat → ClassId} {S : Nat → Nat → Nat} {m : Mu} {B : Nat} (hn0 : m.1 30 10 = nI (mC m)) (hI0 : Inv m B) (hB : B + 40 < 2 ^ 30) : ∀ (j s c0 s0 : Nat) (I : kI) (L : kL) (R : kRf) (LP : List Nat) (rc : Nat → Nat) (ln qu : List Nat) (lg : Nat), s + j = mS m → c0 ≤ s → s0 ≤ 13 * s → Rel (mLookUp s m) I L R LP rc ln qu lg → lg < 2 ^ 31 → J yX7_lookAtWatches.cls yX7_lookAtWatches.name cX7_lookAtWatches 3 none 7 10 130 cy (fun r w' => r = none ∧ ∃ LP' rc', RelX cy S LP' rc' (mLook m) w') kF 2 [(0, .ref (ka S 0 0)), (1, .int (nI s))] [] (wc cy S I L R LP) c0 s0 := by
  have hS10 := hI0.1
  intro j
  induction j with
  | zero =>
    intro s c0 s0 I L R LP rc ln qu lg hs hc0 hs0 hR hlg
    have hs : s = mS m := by omega
    subst hs
    obtain ⟨i1, i2, i3⟩ := look_inv hn0 hI0 (Nat.le_refl _)
    have hsz : I 1 0 5 = nI (mS m) := by have := hR.1.2.1.1; rw [i3] at this; exact this
    refine J_iload_n 1 rfl dX7_lookAtWatches_2 ?_
    refine J_aload_n 0 rfl dX7_lookAtWatches_3 ?_
    refine gf_7_10 (n0 _) dX7_lookAtWatches_4 ?_
    refine gf_7_94 (n1 _) dX7_lookAtWatches_7 ?_
    refine J_topeq (nI (mS m)) (by exact hsz) ?_
    refine J_icmp_ge 91 (by decide) dX7_lookAtWatches_10 (fun c1 => ?_) (fun c1 => ?_)
    rotate_left
    · exfalso
      have Nc1 : ¬ ((mS m) ≤ (mS m)) := fun q => c1 ((nI_leI (a := (mS m)) (b := (mS m)) (by omega) (by omega)).mpr q)
      omega
    have Nc1 : (mS m) ≤ (mS m) := (nI_leI (a := (mS m)) (b := (mS m)) (by omega) (by omega)).mp c1
    exact J_return rfl dX7_lookAtWatches_91 (⟨rfl, LP, rc, I, L, R, ln, qu, lg, rfl, hR, hlg⟩) (by omega) (by omega)
  | succ j ih =>
    intro s c0 s0 I L R LP rc ln qu lg hs hc0 hs0 hR hlg
    obtain ⟨i1, i2, i3⟩ := look_inv (s := s) hn0 hI0 (by omega)
    have hsz : I 1 0 5 = nI (mS m) := by have := hR.1.2.1.1; rw [i3] at this; exact this
    have e0 : mLookUp (s + 1) m = if mDue (mLookUp s m) s = true then mMiss (mLookUp s m) s else mLookUp s m := rfl
    generalize hmm : mLookUp s m = mm at *
    obtain ⟨hS, hC, hH, hL, hG, hT⟩ := hR
    have hR : Rel mm I L R LP rc ln qu lg := ⟨hS, hC, hH, hL, hG, hT⟩
    have hsm : s < mS mm := by omega
    have hs10 : s < 10 := by omega
    have hlg := lg_lt hG i1.2.2.2.2.2.2.1 (by omega) hlg
    have hdu := due_eq hS hT hsm
    by_cases hd : mDue mm s = true
    · rw [if_pos hd] at e0
      have hR1 := rel_ms hR hsm
      have hR2 : Rel (msM mm s) _ L R LP rc ln qu (lg + 1) := rel_log hR1 (by omega) 109 (nI s)
      have hI2 := ms_inv (s := s) i1
      have hG1 := hR1.2.2.2.2.1
      by_cases hz : s = 0
      · have e1 : mMiss mm s = msM mm s := if_neg (fun z => z.1 hz)
        rw [e1] at e0
        refine J_iload_n 1 rfl dX7_lookAtWatches_2 ?_
        refine J_aload_n 0 rfl dX7_lookAtWatches_3 ?_
        refine gf_7_10 (n0 _) dX7_lookAtWatches_4 ?_
        refine gf_7_94 (n1 _) dX7_lookAtWatches_7 ?_
        refine J_topeq (nI (mS m)) (by exact hsz) ?_
        refine J_icmp_ge 91 (by decide) dX7_lookAtWatches_10 (fun c1 => ?_) (fun c1 => ?_)
        · exfalso
          have Nc1 : (mS m) ≤ s := (nI_leI (a := (mS m)) (b := s) (by omega) (by omega)).mp c1
          omega
        have Nc1 : ¬ ((mS m) ≤ s) := fun q => c1 ((nI_leI (a := (mS m)) (b := s) (by omega) (by omega)).mpr q)
        refine J_aload_n 0 rfl dX7_lookAtWatches_13 ?_
        refine gf_7_10 (n0 _) dX7_lookAtWatches_14 ?_
        refine J_iload_n 1 rfl dX7_lookAtWatches_17 ?_
        refine cv_7_70 (cells' := c0) (slots' := s0) dX7_lookAtWatches_18 (c_X1_numbered_s (ns := mS mm) (s := s) hS.2.1 hsm) (n1 _) ⟨by decide, by decide⟩ rfl rfl (by omega) (by omega) (Nat.le_of_ble_eq_true rfl) (fun _ _ r2 => ?_) (fun _ _ h => h.elim)
        obtain ⟨rfl, rfl⟩ := r2
        refine J_eq (st' := [.ref (ka S 17 s)]) rfl rfl rfl ?_
        refine J_astore_n (lv' := [(0, .ref (ka S 0 0)), (1, .int (nI s)), (2, .ref (ka S 17 s))]) (by decide) rfl dX7_lookAtWatches_21 ?_
        refine J_aload_n 2 rfl dX7_lookAtWatches_22 ?_
        refine J_aload_n 0 rfl dX7_lookAtWatches_23 ?_
        refine gf_7_171 (n0 _) dX7_lookAtWatches_24 ?_
        refine cv_7_370 (cells' := c0) (slots' := s0) dX7_lookAtWatches_27 (c_X6_missesWatchAt hs10) (n17 _ (by omega)) ⟨by decide, by decide⟩ rfl rfl (by omega) (by omega) (Nat.le_of_ble_eq_true rfl) (fun _ _ r3 => ?_) (fun _ _ h => h.elim)
        obtain ⟨rfl, rfl⟩ := r3
        refine J_eq (st' := [.int (kb (misF I s (I 0 0 6)))]) rfl rfl rfl ?_
        refine J_topeq 1 (by rw [hdu, hd]; rfl) ?_
        refine J_if_eq 85 (by decide) dX7_lookAtWatches_30 (fun c4 => ?_) (fun c4 => ?_)
        · exact absurd c4 (by decide)
        refine J_aload_n 2 rfl dX7_lookAtWatches_33 ?_
        refine J_dup rfl dX7_lookAtWatches_34 ?_
        refine gf_7_248 (n17 _ (by omega)) dX7_lookAtWatches_35 ?_
        refine J_iconst (v := 1) (by decide) dX7_lookAtWatches_38 ?_
        refine J_iadd dX7_lookAtWatches_39 ?_
        refine pf_7_248 (n17 _ (by omega)) dX7_lookAtWatches_40 ?_
        refine J_aload_n 2 rfl dX7_lookAtWatches_43 ?_
        refine J_aload_n 0 rfl dX7_lookAtWatches_44 ?_
        refine gf_7_171 (n0 _) dX7_lookAtWatches_45 ?_
        refine J_topeq (mm.1 30 26) (by exact hT.1) ?_
        refine pf_7_238 (n17 _ (by omega)) dX7_lookAtWatches_48 ?_
        refine J_aload_n 0 rfl dX7_lookAtWatches_51 ?_
        refine gf_7_33 (n0 _) dX7_lookAtWatches_52 ?_
        refine J_aload_n 0 rfl dX7_lookAtWatches_55 ?_
        refine gf_7_171 (n0 _) dX7_lookAtWatches_56 ?_
        refine J_topeq (mm.1 30 26) (by exact hT.1) ?_
        refine J_bipush (v := 109) (by decide) dX7_lookAtWatches_59 ?_
        refine J_iload_n 1 rfl dX7_lookAtWatches_61 ?_
        refine cv_7_174 (cells' := c0) (slots' := s0) dX7_lookAtWatches_62 (c_X4_write (nx := lg % 60) (kp := min lg 60) hG1.2.2.1 hG1.2.2.2.1 (by omega) (by omega) (by decide) (by decide)) (n4 _) ⟨by decide, by decide⟩ rfl rfl (by omega) (by omega) (Nat.le_of_ble_eq_true rfl) (fun _ _ r5 => ?_) (fun _ _ h => h.elim)
        obtain ⟨rfl, rfl⟩ := r5
        refine J_eq (st' := []) rfl rfl rfl ?_
        refine J_iload_n 1 rfl dX7_lookAtWatches_65 ?_
        refine J_if_eq 85 (by decide) dX7_lookAtWatches_66 (fun c6 => ?_) (fun c6 => ?_)
        rotate_left
        · exfalso
          have Nc6 : ¬ (s = 0) := fun q => c6 ((nI_eqL (a := s) (b := 0) (by omega) (by omega)).mpr q)
          omega
        have Nc6 : s = 0 := (nI_eqL (a := s) (b := 0) (by omega) (by omega)).mp c6
        refine J_iinc (v := (nI (s + 1))) (lv' := [(0, .ref (ka S 0 0)), (1, .int (nI (s + 1))), (2, .ref (ka S 17 s))]) 1 rfl (by exact nI_add s 1) (by decide) rfl dX7_lookAtWatches_85 ?_
        refine J_goto 2 (by decide) dX7_lookAtWatches_88 ?_
        refine J_sub (lv' := [(0, .ref (ka S 0 0)), (1, .int (nI (s + 1)))]) [0, 1] rfl ?_
        exact ih (s + 1) c0 s0 _ _ _ _ _ _ _ _ (by omega) (by omega) (by omega) (by rw [e0]; exact hR2) (by omega)
      · by_cases hf : mFull (msM mm s) = false
        · have e1 : mMiss mm s = mPlace (msM mm s) (nI 0) (nI s) 115 1 := if_pos ⟨hz, hf⟩
          rw [e1] at e0
          have hff := full_f hI2 hf
          refine J_iload_n 1 rfl dX7_lookAtWatches_2 ?_
          refine J_aload_n 0 rfl dX7_lookAtWatches_3 ?_
          refine gf_7_10 (n0 _) dX7_lookAtWatches_4 ?_
          refine gf_7_94 (n1 _) dX7_lookAtWatches_7 ?_
          refine J_topeq (nI (mS m)) (by exact hsz) ?_
          refine J_icmp_ge 91 (by decide) dX7_lookAtWatches_10 (fun c1 => ?_) (fun c1 => ?_)
          · exfalso
            have Nc1 : (mS m) ≤ s := (nI_leI (a := (mS m)) (b := s) (by omega) (by omega)).mp c1
            omega
          have Nc1 : ¬ ((mS m) ≤ s) := fun q => c1 ((nI_leI (a := (mS m)) (b := s) (by omega) (by omega)).mpr q)
          refine J_aload_n 0 rfl dX7_lookAtWatches_13 ?_
          refine gf_7_10 (n0 _) dX7_lookAtWatches_14 ?_
          refine J_iload_n 1 rfl dX7_lookAtWatches_17 ?_
          refine cv_7_70 (cells' := c0) (slots' := s0) dX7_lookAtWatches_18 (c_X1_numbered_s (ns := mS mm) (s := s) hS.2.1 hsm) (n1 _) ⟨by decide, by decide⟩ rfl rfl (by omega) (by omega) (Nat.le_of_ble_eq_true rfl) (fun _ _ r2 => ?_) (fun _ _ h => h.elim)
          obtain ⟨rfl, rfl⟩ := r2
          refine J_eq (st' := [.ref (ka S 17 s)]) rfl rfl rfl ?_
          refine J_astore_n (lv' := [(0, .ref (ka S 0 0)), (1, .int (nI s)), (2, .ref (ka S 17 s))]) (by decide) rfl dX7_lookAtWatches_21 ?_
          refine J_aload_n 2 rfl dX7_lookAtWatches_22 ?_
          refine J_aload_n 0 rfl dX7_lookAtWatches_23 ?_
          refine gf_7_171 (n0 _) dX7_lookAtWatches_24 ?_
          refine cv_7_370 (cells' := c0) (slots' := s0) dX7_lookAtWatches_27 (c_X6_missesWatchAt hs10) (n17 _ (by omega)) ⟨by decide, by decide⟩ rfl rfl (by omega) (by omega) (Nat.le_of_ble_eq_true rfl) (fun _ _ r3 => ?_) (fun _ _ h => h.elim)
          obtain ⟨rfl, rfl⟩ := r3
          refine J_eq (st' := [.int (kb (misF I s (I 0 0 6)))]) rfl rfl rfl ?_
          refine J_topeq 1 (by rw [hdu, hd]; rfl) ?_
          refine J_if_eq 85 (by decide) dX7_lookAtWatches_30 (fun c4 => ?_) (fun c4 => ?_)
          · exact absurd c4 (by decide)
          refine J_aload_n 2 rfl dX7_lookAtWatches_33 ?_
          refine J_dup rfl dX7_lookAtWatches_34 ?_
          refine gf_7_248 (n17 _ (by omega)) dX7_lookAtWatches_35 ?_
          refine J_iconst (v := 1) (by decide) dX7_lookAtWatches_38 ?_
          refine J_iadd dX7_lookAtWatches_39 ?_
          refine pf_7_248 (n17 _ (by omega)) dX7_lookAtWatches_40 ?_
          refine J_aload_n 2 rfl dX7_lookAtWatches_43 ?_
          refine J_aload_n 0 rfl dX7_lookAtWatches_44 ?_
          refine gf_7_171 (n0 _) dX7_lookAtWatches_45 ?_
          refine J_topeq (mm.1 30 26) (by exact hT.1) ?_
          refine pf_7_238 (n17 _ (by omega)) dX7_lookAtWatches_48 ?_
          refine J_aload_n 0 rfl dX7_lookAtWatches_51 ?_
          refine gf_7_33 (n0 _) dX7_lookAtWatches_52 ?_
          refine J_aload_n 0 rfl dX7_lookAtWatches_55 ?_
          refine gf_7_171 (n0 _) dX7_lookAtWatches_56 ?_
          refine J_topeq (mm.1 30 26) (by exact hT.1) ?_
          refine J_bipush (v := 109) (by decide) dX7_lookAtWatches_59 ?_
          refine J_iload_n 1 rfl dX7_lookAtWatches_61 ?_
          refine cv_7_174 (cells' := c0) (slots' := s0) dX7_lookAtWatches_62 (c_X4_write (nx := lg % 60) (kp := min lg 60) hG1.2.2.1 hG1.2.2.2.1 (by omega) (by omega) (by decide) (by decide)) (n4 _) ⟨by decide, by decide⟩ rfl rfl (by omega) (by omega) (Nat.le_of_ble_eq_true rfl) (fun _ _ r5 => ?_) (fun _ _ h => h.elim)
          obtain ⟨rfl, rfl⟩ := r5
          refine J_eq (st' := []) rfl rfl rfl ?_
          refine J_iload_n 1 rfl dX7_lookAtWatches_65 ?_
          refine J_if_eq 85 (by decide) dX7_lookAtWatches_66 (fun c6 => ?_) (fun c6 => ?_)
          · exfalso
            have Nc6 : s = 0 := (nI_eqL (a := s) (b := 0) (by omega) (by omega)).mp c6
            omega
          have Nc6 : ¬ (s = 0) := fun q => c6 ((nI_eqL (a := s) (b := 0) (by omega) (by omega)).mpr q)
          refine J_aload_n 0 rfl dX7_lookAtWatches_69 ?_
          refine cv_7_142 (cells' := c0) (slots' := s0) dX7_lookAtWatches_70 (c_X7_hasRoomForACall (I := (logW (ku (ku I 17 s 5 (I 17 s 5 + 1)) 17 s 4 (mm.1 30 26)) (lg % 60) (min lg 60) (mm.1 30 26) 109 (nI s))) (n := mC (msM mm s)) (z := ln.length) hR2.2.1.2.1.1 hR2.2.1.2.1.2.1 hR2.2.2.2.1.1 hL.2.1 (hH.inLP hC)) (n0 _) ⟨by decide, by decide⟩ rfl rfl (by omega) (by omega) (Nat.le_of_ble_eq_true rfl) (fun _ _ r7 => ?_) (fun _ _ h => h.elim)
          obtain ⟨rfl, rfl⟩ := r7
          refine J_eq (st' := [.int (kb (decide (mC (msM mm s) < 150) && decide (nI ln.length + busyF R < 24)))]) rfl rfl rfl ?_
          refine J_topeq 1 (by rw [room_eq hR2 hI2, hf]; rfl) ?_
          refine J_if_eq 85 (by decide) dX7_lookAtWatches_73 (fun c8 => ?_) (fun c8 => ?_)
          · exact absurd c8 (by decide)
          refine J_aload_n 0 rfl dX7_lookAtWatches_76 ?_
          refine J_iconst (v := 0) (by decide) dX7_lookAtWatches_77 ?_
          refine J_topeq (nI 0) (by rfl) ?_
          refine J_iload_n 1 rfl dX7_lookAtWatches_78 ?_
          refine J_bipush (v := 115) (by decide) dX7_lookAtWatches_79 ?_
          refine J_iconst (v := 1) (by decide) dX7_lookAtWatches_81 ?_
          refine cv_7_150 (cells' := c0 + 1) (slots' := s0 + 13) dX7_lookAtWatches_82 (c_X7_place (I := (logW (ku (ku I 17 s 5 (I 17 s 5 + 1)) 17 s 4 (mm.1 30 26)) (lg % 60) (min lg 60) (mm.1 30 26) 109 (nI s))) (f := 0) (t := s) (u := 115) (k := 1) hR2 hI2 (by omega) (lg_lt hR2.2.2.2.2.1 hI2.2.2.2.2.2.2.1 (by omega) (by omega)) hff.1 hff.2 (by rw [ms_S]; omega) (by rw [ms_S]; omega) (fun z => hz z.symm) (Or.inr (Or.inr (Or.inl rfl)))) (n0 _) ⟨by decide, by decide⟩ rfl rfl (by omega) (by omega) (Nat.le_of_ble_eq_true rfl) (fun _ _ r9 => ?_) (fun _ _ h => h.elim)
          obtain ⟨rfl, LP3, rc3, I3, L3, R3, ln3, qu3, lg3, rfl, hR3, hl3⟩ := r9
          refine J_eq (st' := []) rfl rfl rfl ?_
          refine J_iinc (v := (nI (s + 1))) (lv' := [(0, .ref (ka S 0 0)), (1, .int (nI (s + 1))), (2, .ref (ka S 17 s))]) 1 rfl (by exact nI_add s 1) (by decide) rfl dX7_lookAtWatches_85 ?_
          refine J_goto 2 (by decide) dX7_lookAtWatches_88 ?_
          refine J_sub (lv' := [(0, .ref (ka S 0 0)), (1, .int (nI (s + 1)))]) [0, 1] rfl ?_
          exact ih (s + 1) (c0 + 1) (s0 + 13) _ _ _ _ _ _ _ _ (by omega) (by omega) (by omega) (by rw [e0]; exact hR3) hl3
        · have hf : mFull (msM mm s) = true := by simpa using hf
          have e1 : mMiss mm s = msM mm s := if_neg (fun z => by rw [hf] at z; exact absurd z.2 (by decide))
          rw [e1] at e0
          refine J_iload_n 1 rfl dX7_lookAtWatches_2 ?_
          refine J_aload_n 0 rfl dX7_lookAtWatches_3 ?_
          refine gf_7_10 (n0 _) dX7_lookAtWatches_4 ?_
          refine gf_7_94 (n1 _) dX7_lookAtWatches_7 ?_
          refine J_topeq (nI (mS m)) (by exact hsz) ?_
          refine J_icmp_ge 91 (by decide) dX7_lookAtWatches_10 (fun c1 => ?_) (fun c1 => ?_)
          · exfalso
            have Nc1 : (mS m) ≤ s := (nI_leI (a := (mS m)) (b := s) (by omega) (by omega)).mp c1
            omega
          have Nc1 : ¬ ((mS m) ≤ s) := fun q => c1 ((nI_leI (a := (mS m)) (b := s) (by omega) (by omega)).mpr q)
          refine J_aload_n 0 rfl dX7_lookAtWatches_13 ?_
          refine gf_7_10 (n0 _) dX7_lookAtWatches_14 ?_
          refine J_iload_n 1 rfl dX7_lookAtWatches_17 ?_
          refine cv_7_70 (cells' := c0) (slots' := s0) dX7_lookAtWatches_18 (c_X1_numbered_s (ns := mS mm) (s := s) hS.2.1 hsm) (n1 _) ⟨by decide, by decide⟩ rfl rfl (by omega) (by omega) (Nat.le_of_ble_eq_true rfl) (fun _ _ r2 => ?_) (fun _ _ h => h.elim)
          obtain ⟨rfl, rfl⟩ := r2
          refine J_eq (st' := [.ref (ka S 17 s)]) rfl rfl rfl ?_
          refine J_astore_n (lv' := [(0, .ref (ka S 0 0)), (1, .int (nI s)), (2, .ref (ka S 17 s))]) (by decide) rfl dX7_lookAtWatches_21 ?_
          refine J_aload_n 2 rfl dX7_lookAtWatches_22 ?_
          refine J_aload_n 0 rfl dX7_lookAtWatches_23 ?_
          refine gf_7_171 (n0 _) dX7_lookAtWatches_24 ?_
          refine cv_7_370 (cells' := c0) (slots' := s0) dX7_lookAtWatches_27 (c_X6_missesWatchAt hs10) (n17 _ (by omega)) ⟨by decide, by decide⟩ rfl rfl (by omega) (by omega) (Nat.le_of_ble_eq_true rfl) (fun _ _ r3 => ?_) (fun _ _ h => h.elim)
          obtain ⟨rfl, rfl⟩ := r3
          refine J_eq (st' := [.int (kb (misF I s (I 0 0 6)))]) rfl rfl rfl ?_
          refine J_topeq 1 (by rw [hdu, hd]; rfl) ?_
          refine J_if_eq 85 (by decide) dX7_lookAtWatches_30 (fun c4 => ?_) (fun c4 => ?_)
          · exact absurd c4 (by decide)
          refine J_aload_n 2 rfl dX7_lookAtWatches_33 ?_
          refine J_dup rfl dX7_lookAtWatches_34 ?_
          refine gf_7_248 (n17 _ (by omega)) dX7_lookAtWatches_35 ?_
          refine J_iconst (v := 1) (by decide) dX7_lookAtWatches_38 ?_
          refine J_iadd dX7_lookAtWatches_39 ?_
          refine pf_7_248 (n17 _ (by omega)) dX7_lookAtWatches_40 ?_
          refine J_aload_n 2 rfl dX7_lookAtWatches_43 ?_
          refine J_aload_n 0 rfl dX7_lookAtWatches_44 ?_
          refine gf_7_171 (n0 _) dX7_lookAtWatches_45 ?_
          refine J_topeq (mm.1 30 26) (by exact hT.1) ?_
          refine pf_7_238 (n17 _ (by omega)) dX7_lookAtWatches_48 ?_
          refine J_aload_n 0 rfl dX7_lookAtWatches_51 ?_
          refine gf_7_33 (n0 _) dX7_lookAtWatches_52 ?_
          refine J_aload_n 0 rfl dX7_lookAtWatches_55 ?_
          refine gf_7_171 (n0 _) dX7_lookAtWatches_56 ?_
          refine J_topeq (mm.1 30 26) (by exact hT.1) ?_
          refine J_bipush (v := 109) (by decide) dX7_lookAtWatches_59 ?_
          refine J_iload_n 1 rfl dX7_lookAtWatches_61 ?_
          refine cv_7_174 (cells' := c0) (slots' := s0) dX7_lookAtWatches_62 (c_X4_write (nx := lg % 60) (kp := min lg 60) hG1.2.2.1 hG1.2.2.2.1 (by omega) (by omega) (by decide) (by decide)) (n4 _) ⟨by decide, by decide⟩ rfl rfl (by omega) (by omega) (Nat.le_of_ble_eq_true rfl) (fun _ _ r5 => ?_) (fun _ _ h => h.elim)
          obtain ⟨rfl, rfl⟩ := r5
          refine J_eq (st' := []) rfl rfl rfl ?_
          refine J_iload_n 1 rfl dX7_lookAtWatches_65 ?_
          refine J_if_eq 85 (by decide) dX7_lookAtWatches_66 (fun c6 => ?_) (fun c6 => ?_)
          · exfalso
            have Nc6 : s = 0 := (nI_eqL (a := s) (b := 0) (by omega) (by omega)).mp c6
            omega
          have Nc6 : ¬ (s = 0) := fun q => c6 ((nI_eqL (a := s) (b := 0) (by omega) (by omega)).mpr q)
          refine J_aload_n 0 rfl dX7_lookAtWatches_69 ?_
          refine cv_7_142 (cells' := c0) (slots' := s0) dX7_lookAtWatches_70 (c_X7_hasRoomForACall (I := (logW (ku (ku I 17 s 5 (I 17 s 5 + 1)) 17 s 4 (mm.1 30 26)) (lg % 60) (min lg 60) (mm.1 30 26) 109 (nI s))) (n := mC (msM mm s)) (z := ln.length) hR2.2.1.2.1.1 hR2.2.1.2.1.2.1 hR2.2.2.2.1.1 hL.2.1 (hH.inLP hC)) (n0 _) ⟨by decide, by decide⟩ rfl rfl (by omega) (by omega) (Nat.le_of_ble_eq_true rfl) (fun _ _ r7 => ?_) (fun _ _ h => h.elim)
          obtain ⟨rfl, rfl⟩ := r7
          refine J_eq (st' := [.int (kb (decide (mC (msM mm s) < 150) && decide (nI ln.length + busyF R < 24)))]) rfl rfl rfl ?_
          refine J_topeq 0 (by rw [room_eq hR2 hI2, hf]; rfl) ?_
          refine J_if_eq 85 (by decide) dX7_lookAtWatches_73 (fun c8 => ?_) (fun c8 => ?_)
          rotate_left
          · exact absurd (by decide) c8
          refine J_iinc (v := (nI (s + 1))) (lv' := [(0, .ref (ka S 0 0)), (1, .int (nI (s + 1))), (2, .ref (ka S 17 s))]) 1 rfl (by exact nI_add s 1) (by decide) rfl dX7_lookAtWatches_85 ?_
          refine J_goto 2 (by decide) dX7_lookAtWatches_88 ?_
          refine J_sub (lv' := [(0, .ref (ka S 0 0)), (1, .int (nI (s + 1)))]) [0, 1] rfl ?_
          exact ih (s + 1) c0 s0 _ _ _ _ _ _ _ _ (by omega) (by omega) (by omega) (by rw [e0]; exact hR2) (by omega)
    · have hd : mDue mm s = false := by simpa using hd
      rw [hd, if_neg (by decide)] at e0
      refine J_iload_n 1 rfl dX7_lookAtWatches_2 ?_
      refine J_aload_n 0 rfl dX7_lookAtWatches_3 ?_
      refine gf_7_10 (n0 _) dX7_lookAtWatches_4 ?_
      refine gf_7_94 (n1 _) dX7_lookAtWatches_7 ?_
      refine J_topeq (nI (mS m)) (by exact hsz) ?_
      refine J_icmp_ge 91 (by decide) dX7_lookAtWatches_10 (fun c1 => ?_) (fun c1 => ?_)
      · exfalso
        have Nc1 : (mS m) ≤ s := (nI_leI (a := (mS m)) (b := s) (by omega) (by omega)).mp c1
        omega
      have Nc1 : ¬ ((mS m) ≤ s) := fun q => c1 ((nI_leI (a := (mS m)) (b := s) (by omega) (by omega)).mpr q)
      refine J_aload_n 0 rfl dX7_lookAtWatches_13 ?_
      refine gf_7_10 (n0 _) dX7_lookAtWatches_14 ?_
      refine J_iload_n 1 rfl dX7_lookAtWatches_17 ?_
      refine cv_7_70 (cells' := c0) (slots' := s0) dX7_lookAtWatches_18 (c_X1_numbered_s (ns := mS mm) (s := s) hS.2.1 hsm) (n1 _) ⟨by decide, by decide⟩ rfl rfl (by omega) (by omega) (Nat.le_of_ble_eq_true rfl) (fun _ _ r2 => ?_) (fun _ _ h => h.elim)
      obtain ⟨rfl, rfl⟩ := r2
      refine J_eq (st' := [.ref (ka S 17 s)]) rfl rfl rfl ?_
      refine J_astore_n (lv' := [(0, .ref (ka S 0 0)), (1, .int (nI s)), (2, .ref (ka S 17 s))]) (by decide) rfl dX7_lookAtWatches_21 ?_
      refine J_aload_n 2 rfl dX7_lookAtWatches_22 ?_
      refine J_aload_n 0 rfl dX7_lookAtWatches_23 ?_
      refine gf_7_171 (n0 _) dX7_lookAtWatches_24 ?_
      refine cv_7_370 (cells' := c0) (slots' := s0) dX7_lookAtWatches_27 (c_X6_missesWatchAt hs10) (n17 _ (by omega)) ⟨by decide, by decide⟩ rfl rfl (by omega) (by omega) (Nat.le_of_ble_eq_true rfl) (fun _ _ r3 => ?_) (fun _ _ h => h.elim)
      obtain ⟨rfl, rfl⟩ := r3
      refine J_eq (st' := [.int (kb (misF I s (I 0 0 6)))]) rfl rfl rfl ?_
      refine J_topeq 0 (by rw [hdu, hd]; rfl) ?_
      refine J_if_eq 85 (by decide) dX7_lookAtWatches_30 (fun c4 => ?_) (fun c4 => ?_)
      rotate_left
      · exact absurd (by decide) c4
      refine J_iinc (v := (nI (s + 1))) (lv' := [(0, .ref (ka S 0 0)), (1, .int (nI (s + 1))), (2, .ref (ka S 17 s))]) 1 rfl (by exact nI_add s 1) (by decide) rfl dX7_lookAtWatches_85 ?_
      refine J_goto 2 (by decide) dX7_lookAtWatches_88 ?_
      refine J_sub (lv' := [(0, .ref (ka S 0 0)), (1, .int (nI (s + 1)))]) [0, 1] rfl ?_
      exact ih (s + 1) c0 s0 _ _ _ _ _ _ _ _ (by omega) (by omega) (by omega) (by rw [e0]; exact hR) (by omega)

set_option maxRecDepth 20000 in
set_option maxHeartbeats 1000000 in
theorem c_X7_lookAtWatches {cy : Nat → ClassId} {S : Nat → Nat → Nat} {I : kI} {L : kL} {R : kRf} {LP : List Nat} {m : Mu} {rc : Nat → Nat} {ln qu : List Nat} {lg B : Nat} (hR : Rel m I L R LP rc ln qu lg) (hI : Inv m B) (hB : B + 40 < 2 ^ 30) (hlg : lg < 2 ^ 30) : Con yX7_lookAtWatches cX7_lookAtWatches 3 none 7 10 130 cy [.ref (ka S 0 0)] (wc cy S I L R LP) (fun r w' => r = none ∧ ∃ LP' rc', RelX cy S LP' rc' (mLook m) w') kF := by
  refine Con_of (by decide +kernel) (Nat.le_of_ble_eq_true rfl) ?_
  refine J_eq (lv' := [(0, .ref (ka S 0 0))]) rfl rfl rfl ?_
  refine J_iconst (v := 0) (by decide) dX7_lookAtWatches_0 ?_
  refine J_istore_n (lv' := [(0, .ref (ka S 0 0)), (1, .int 0)]) (by decide) rfl dX7_lookAtWatches_1 ?_
  refine J_eq (lv' := [(0, .ref (ka S 0 0)), (1, .int (nI 0))]) rfl rfl rfl ?_
  exact l_X7_lookAtWatches hR.2.1.1 hI hB (mS m) 0 0 0 I L R LP rc ln qu lg (by omega) (by omega) (by omega) hR (by omega)

