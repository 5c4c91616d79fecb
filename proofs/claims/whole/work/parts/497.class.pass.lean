/-! pass -/
theorem pass_inv {m : Mu} {B : Nat} (hn : (mMins (mTick m)).1.1 30 10 = nI (mC (mMins (mTick m)).1)) (hI : Inv m B) (hB : B + 8000 < 2 ^ 30) : Inv (mPass1 m) (B + 8000) := by
  have i1 := mins_inv (tick_inv hI)
  have i2 := (look_inv (s := mS (mMins (mTick m)).1) hn i1 (Nat.le_refl _)).1
  have := i1.1
  have i3 := speak_inv (i2.mono (Nat.le_refl _)) (by omega)
  exact i3.mono (by omega)

set_option maxRecDepth 20000 in
set_option maxHeartbeats 1000000 in
theorem l_X7_pass {cy : Nat → ClassId} {S : Nat → Nat → Nat} {m : Mu} {B k : Nat} (hk : k ≤ 10) (hB : B + 90000 < 2 ^ 30) : ∀ (i j c0 s0 : Nat) (I : kI) (L : kL) (R : kRf) (LP : List Nat) (rc : Nat → Nat) (ln qu : List Nat) (lg : Nat), j + i = k → c0 ≤ 10 * j → s0 ≤ 130 * j → Rel (mPass j (m, 0)).1 I L R LP rc ln qu lg → lg < 2 ^ 31 → Inv (mPass j (m, 0)).1 (B + 8000 * j) → J yX7_pass.cls yX7_pass.name cX7_pass 4 (some .int) 11 100 1300 cy (fun r w' => r = some (.int (nI (mPass k (m, 0)).2)) ∧ Inv (mPass k (m, 0)).1 (B + 8000 * k) ∧ ∃ LP' rc', RelX cy S LP' rc' (mPass k (m, 0)).1 w') kF 25 [(0, .ref (ka S 0 0)), (1, .int (nI k)), (2, .int (nI (mPass j (m, 0)).2)), (3, .int (nI j))] [] (wc cy S I L R LP) c0 s0 := by
  intro i
  induction i with
  | zero =>
    intro j c0 s0 I L R LP rc ln qu lg hj hc0 hs0 hR hlg hI
    have hj : j = k := by omega
    subst hj
    refine J_iload_n 3 rfl dX7_pass_25 ?_
    refine J_iload_n 1 rfl dX7_pass_26 ?_
    refine J_icmp_ge 78 (by decide) dX7_pass_27 (fun c1 => ?_) (fun c1 => ?_)
    rotate_left
    · exfalso
      have Nc1 : ¬ (j ≤ j) := fun q => c1 ((nI_leI (a := j) (b := j) (by omega) (by omega)).mpr q)
      omega
    have Nc1 : j ≤ j := (nI_leI (a := j) (b := j) (by omega) (by omega)).mp c1
    refine J_iload_n 2 rfl dX7_pass_78 ?_
    exact J_ireturn rfl (by first | rfl | assumption | simp [kb_nar]) dX7_pass_79 (⟨rfl, hI, LP, rc, I, L, R, ln, qu, lg, rfl, hR, hlg⟩) (by omega) (by omega)
  | succ i ih =>
    intro j c0 s0 I L R LP rc ln qu lg hj hc0 hs0 hR hlg hI
    have e1 : (mPass (j + 1) (m, 0)).1 = mPass1 (mPass j (m, 0)).1 := by rw [mPass]
    have e2 : (mPass (j + 1) (m, 0)).2 = (mPass j (m, 0)).2 + (mMins (mTick (mPass j (m, 0)).1)).2 := by rw [mPass]
    generalize hmm : mPass j (m, 0) = x at *
    have hlg := lg_lt hR.2.2.2.2.1 hI.2.2.2.2.2.2.1 (by omega) hlg
    have hR1 := rel_tick hR
    have hI1 := tick_inv hI
    have hlg1 := hlg
    refine J_iload_n 3 rfl dX7_pass_25 ?_
    refine J_iload_n 1 rfl dX7_pass_26 ?_
    refine J_icmp_ge 78 (by decide) dX7_pass_27 (fun c1 => ?_) (fun c1 => ?_)
    · exfalso
      have Nc1 : k ≤ j := (nI_leI (a := k) (b := j) (by omega) (by omega)).mp c1
      omega
    have Nc1 : ¬ (k ≤ j) := fun q => c1 ((nI_leI (a := k) (b := j) (by omega) (by omega)).mpr q)
    refine J_aload_n 0 rfl dX7_pass_30 ?_
    refine J_dup rfl dX7_pass_31 ?_
    refine gf_7_171 (n0 _) dX7_pass_32 ?_
    refine J_topeq (x.1.1 30 26) (by exact hR.2.2.2.2.2.1) ?_
    refine J_iconst (v := 1) (by decide) dX7_pass_35 ?_
    refine J_iadd dX7_pass_36 ?_
    refine pf_7_171 (n0 _) dX7_pass_37 ?_
    refine J_aload_n 0 rfl dX7_pass_40 ?_
    refine J_dup rfl dX7_pass_41 ?_
    refine gf_7_222 (n0 _) dX7_pass_42 ?_
    refine J_aload_n 0 rfl dX7_pass_45 ?_
    refine gf_7_19 (n0 _) dX7_pass_46 ?_
    refine gf_7_213 (n2 _) dX7_pass_49 ?_
    refine J_topeq (nI ln.length) (by exact hR.2.2.2.1.1) ?_
    refine J_i2l dX7_pass_52 ?_
    refine J_ladd dX7_pass_53 ?_
    refine pf_7_222 (n0 _) dX7_pass_54 ?_
    refine J_iload_n 2 rfl dX7_pass_57 ?_
    refine J_aload_n 0 rfl dX7_pass_58 ?_
    refine cv_7_226 (cells' := c0) (slots' := s0) dX7_pass_59 (c_X7_speakAMinute hR1 hI1 (by omega) hlg) (n0 _) ⟨by decide, by decide⟩ rfl rfl (by omega) (by omega) (Nat.le_of_ble_eq_true rfl) (fun _ _ r2 => ?_) (fun _ _ h => h.elim)
    obtain ⟨rfl, I2, L2, R2, ln2, qu2, lg2, rfl, hR2, hl2⟩ := r2
    refine J_eq (st' := [.int (nI (mMins (mTick x.1)).2), .int (nI x.2)]) rfl rfl rfl ?_
    have hI2 := mins_inv hI1
    have hlg2 := lg_lt hR2.2.2.2.2.1 hI2.2.2.2.2.2.2.1 (by omega) hl2
    refine J_iadd dX7_pass_62 ?_
    refine J_topeq (nI (x.2 + (mMins (mTick x.1)).2)) (by exact nI_add x.2 ((mMins (mTick x.1)).2)) ?_
    refine J_istore_n (lv' := [(0, .ref (ka S 0 0)), (1, .int (nI k)), (2, .int (nI (x.2 + (mMins (mTick x.1)).2))), (3, .int (nI j))]) (by decide) rfl dX7_pass_63 ?_
    refine J_aload_n 0 rfl dX7_pass_64 ?_
    refine cv_7_230 (cells' := c0 + 10) (slots' := s0 + 130) dX7_pass_65 (c_X7_lookAtWatches hR2 hI2 (by omega) hlg2) (n0 _) ⟨by decide, by decide⟩ rfl rfl (by omega) (by omega) (Nat.le_of_ble_eq_true rfl) (fun _ _ r3 => ?_) (fun _ _ h => h.elim)
    obtain ⟨rfl, LP3, rc3, I3, L3, R3, ln3, qu3, lg3, rfl, hR3, hl3⟩ := r3
    refine J_eq (st' := []) rfl rfl rfl ?_
    have hs2 := hI2.1
    have hI3 : Inv (mLook (mMins (mTick x.1)).1) _ := (look_inv hR2.2.1.1 hI2 (Nat.le_refl _)).1
    have hlg3 := lg_lt hR3.2.2.2.2.1 hI3.2.2.2.2.2.2.1 (by omega) hl3
    have hI5 := pass_inv hR2.2.1.1 hI (by omega)
    refine J_aload_n 0 rfl dX7_pass_68 ?_
    refine cv_7_67 (cells' := (c0 + 10)) (slots' := (s0 + 130)) dX7_pass_69 (c_X7_letSpeak hR3 hI3 (by omega) hlg3) (n0 _) ⟨by decide, by decide⟩ rfl rfl (by omega) (by omega) (Nat.le_of_ble_eq_true rfl) (fun _ _ r4 => ?_) (fun _ _ h => h.elim)
    obtain ⟨rfl, I4, L4, R4, ln4, qu4, lg4, rfl, hR4, hl4⟩ := r4
    refine J_eq (st' := []) rfl rfl rfl ?_
    refine J_iinc (v := (nI (j + 1))) (lv' := [(0, .ref (ka S 0 0)), (1, .int (nI k)), (2, .int (nI (x.2 + (mMins (mTick x.1)).2))), (3, .int (nI (j + 1)))]) 3 rfl (by exact nI_add j 1) (by decide) rfl dX7_pass_72 ?_
    refine J_goto 25 (by decide) dX7_pass_75 ?_
    refine J_sub (lv' := [(0, .ref (ka S 0 0)), (1, .int (nI k)), (2, .int (nI (x.2 + (mMins (mTick x.1)).2))), (3, .int (nI (j + 1)))]) [0, 1, 2, 3] rfl ?_
    rw [← e2]
    exact ih (j + 1) (c0 + 10) (s0 + 130) _ _ _ _ _ _ _ _ (by omega) (by omega) (by omega) (by rw [e1]; exact hR4) hl4 (by rw [e1]; exact hI5.mono (by omega))

set_option maxRecDepth 20000 in
set_option maxHeartbeats 1000000 in
theorem c_X7_pass_s {cy : Nat → ClassId} {S : Nat → Nat → Nat} {I : kI} {L : kL} {R : kRf} {LP : List Nat} {m : Mu} {rc : Nat → Nat} {ln qu : List Nat} {lg B : Nat} {k : Nat} (hR : Rel m I L R LP rc ln qu lg) (hI : Inv m B) (hB : B + 90000 < 2 ^ 30) (hlg : lg < 2 ^ 30) (h1 : 1 ≤ k) (hk : k ≤ 10) : Con yX7_pass cX7_pass 4 (some .int) 11 100 1300 cy [.ref (ka S 0 0), .int (nI k)] (wc cy S I L R LP) (fun r w' => r = some (.int (nI (mPass k (m, 0)).2)) ∧ Inv (mPass k (m, 0)).1 (B + 8000 * k) ∧ ∃ LP' rc', RelX cy S LP' rc' (mPass k (m, 0)).1 w') kF := by
  refine Con_of (by decide +kernel) (Nat.le_of_ble_eq_true rfl) ?_
  refine J_eq (lv' := [(0, .ref (ka S 0 0)), (1, .int (nI k))]) rfl rfl rfl ?_
  refine J_iload_n 1 rfl dX7_pass_0 ?_
  refine J_iconst (v := 1) (by decide) dX7_pass_1 ?_
  refine J_icmp_lt 11 (by decide) dX7_pass_2 (fun c1 => ?_) (fun c1 => ?_)
  · exfalso
    have Nc1 : k < 1 := (nI_ltI (a := k) (b := 1) (by omega) (by omega)).mp c1
    omega
  have Nc1 : ¬ (k < 1) := fun q => c1 ((nI_ltI (a := k) (b := 1) (by omega) (by omega)).mpr q)
  refine J_iload_n 1 rfl dX7_pass_5 ?_
  refine J_bipush (v := 10) (by decide) dX7_pass_6 ?_
  refine J_icmp_le 21 (by decide) dX7_pass_8 (fun c2 => ?_) (fun c2 => ?_)
  rotate_left
  · exfalso
    have Nc2 : ¬ (k ≤ 10) := fun q => c2 ((nI_leI (a := k) (b := 10) (by omega) (by omega)).mpr q)
    omega
  have Nc2 : k ≤ 10 := (nI_leI (a := k) (b := 10) (by omega) (by omega)).mp c2
  refine J_iconst (v := 0) (by decide) dX7_pass_21 ?_
  refine J_istore_n (lv' := [(0, .ref (ka S 0 0)), (1, .int (nI k)), (2, .int 0)]) (by decide) rfl dX7_pass_22 ?_
  refine J_iconst (v := 0) (by decide) dX7_pass_23 ?_
  refine J_istore_n (lv' := [(0, .ref (ka S 0 0)), (1, .int (nI k)), (2, .int 0), (3, .int 0)]) (by decide) rfl dX7_pass_24 ?_
  refine J_eq (lv' := [(0, .ref (ka S 0 0)), (1, .int (nI k)), (2, .int (nI 0)), (3, .int (nI 0))]) rfl rfl rfl ?_
  exact l_X7_pass (m := m) hk hB k 0 0 0 I L R LP rc ln qu lg (by omega) (by omega) (by omega) hR (by omega) hI

