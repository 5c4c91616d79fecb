/-! the model: placing, the watches, a minute, pass -/
section MP
variable {m m' : Mu} {B : Nat}
theorem miss_30 {s : Nat} : (mMiss m s).1 30 0 = m.1 30 0 := by unfold mMiss; split <;> rfl
theorem look_30 (s : Nat) : (mLookUp s m).1 30 0 = m.1 30 0 := by
  induction s with
  | zero => rfl
  | succ s ih =>
    have e : mLookUp (s + 1) m = if mDue (mLookUp s m) s = true then mMiss (mLookUp s m) s else mLookUp s m := rfl
    rw [e]
    split
    · rw [miss_30]; exact ih
    · exact ih
theorem mN_look {s : Nat} (hn : mN m) (hI : Inv m B) (hs : s ≤ mS m) : mN (mLookUp s m) := by
  obtain ⟨h1, h2, h3⟩ := look_inv hn.2 hI hs
  exact ⟨by rw [look_30, h3]; exact hn.1, h2⟩
theorem mN_min {h n : Nat} (hn : mN m) : mN (mMin h (m, n)).1 := by
  unfold mMin
  split
  · exact hn
  · split
    · exact hn
    · exact hn
theorem mN_tick (hn : mN m) : mN (mTick m) := hn
theorem mN_mins (hn : mN m) : mN (mMins m).1 := mN_min (n := _) (mN_min (n := _) (mN_min (n := 0) hn))
theorem mN_turn {q : Nat} (hn : mN m) : mN (mTurn q m) := by
  unfold mTurn
  split
  · exact mN_begin hn
  · exact hn
theorem mN_turns (f : Nat) {m : Mu} (hn : mN m) : mN (mTurns f m) := by
  induction f generalizing m with
  | zero => exact hn
  | succ f ih => rw [mTurns_s]; exact ih (mN_turn hn)
theorem mN_speak (hn : mN m) : mN (mSpeak m) := mN_turns 600 hn
theorem mN_pass1 (hn : mN m) (hI : Inv m B) : mN (mPass1 m) := mN_speak (mN_look (mN_mins (mN_tick hn)) (mins_inv (tick_inv hI)) (Nat.le_refl _))
theorem in_t {a b x : Int32} (h : a ≤ x ∧ x ≤ b) : (decide (a ≤ x) && decide (x ≤ b)) = true := by rw [decide_eq_true h.1, decide_eq_true h.2]; rfl
theorem in_f {a b x : Int32} (h : ¬ (a ≤ x ∧ x ≤ b)) : (decide (a ≤ x) && decide (x ≤ b)) = false := by
  by_cases h1 : a ≤ x
  · by_cases h2 : x ≤ b
    · exact absurd ⟨h1, h2⟩ h
    · rw [decide_eq_false h2, Bool.and_false]
  · rw [decide_eq_false h1]; rfl
end MP

set_option maxRecDepth 20000 in
set_option maxHeartbeats 1000000 in
theorem c_X8_places {cy : Nat → ClassId} {S : Nat → Nat → Nat} {I : kI} {L : kL} {R : kRf} {m : Mu} {cd : Int32} {f t u k : Int32} (hM : MR m cd I L)(hn : mN m) (hc : mC m < 150) (hg0 : 0 ≤ m.1 30 27) (hk : vp_nar .char u = u) : Con yX8_places cX8_places 5 none 1 0 0 cy [.ref (ka S 30 0), .int f, .int t, .int u, .int k] (wm cy S I L R) (fun r w' => r = none ∧ MX cy S R (mPlace m f t u k) cd w') kF := by
  refine Con_of (by decide +kernel) (Nat.le_of_ble_eq_true rfl) ?_
  refine J_eq (lv' := [(0, .ref (ka S 30 0)), (1, .int f), (2, .int t), (3, .int u), (4, .int k)]) rfl rfl rfl ?_
  refine J_aload_n 0 rfl dX8_places_0 ?_
  refine gf_8_35 n30 dX8_places_1 ?_
  refine J_aload_n 0 rfl dX8_places_4 ?_
  refine gf_8_135 n30 dX8_places_5 ?_
  refine J_topeq (nI (mC m)) ((hM.1 30 10 rfl).trans (by exact hn.2)) ?_
  refine J_iload_n 1 rfl dX8_places_8 ?_
  refine J_iast (I' := ku I 51 0 (mC m) f) (L' := L) (R' := R) (mC m) 0 n51 rfl rfl (vp_in_nI (by omega) (by decide)) (nI_toNat (by omega)) (by rw [ku_own]; rfl) (fun k' i' h => ⟨ku_row _ _ h, rfl, rfl⟩) dX8_places_9 ?_
  have hM1 := MR_ms (k := 51) (j := (mC m)) (v := f) hM rfl
  refine J_aload_n 0 rfl dX8_places_10 ?_
  refine gf_8_38 n30 dX8_places_11 ?_
  refine J_aload_n 0 rfl dX8_places_14 ?_
  refine gf_8_135 n30 dX8_places_15 ?_
  refine J_topeq (nI (mC m)) ((hM1.1 30 10 rfl).trans (by exact hn.2)) ?_
  refine J_iload_n 2 rfl dX8_places_18 ?_
  refine J_iast (I' := ku (ku I 51 0 (mC m) f) 52 0 (mC m) t) (L' := L) (R' := R) (mC m) 0 n52 rfl rfl (vp_in_nI (by omega) (by decide)) (nI_toNat (by omega)) (by rw [ku_own]; rfl) (fun k' i' h => ⟨ku_row _ _ h, rfl, rfl⟩) dX8_places_19 ?_
  have hM2 := MR_ms (k := 52) (j := (mC m)) (v := t) hM1 rfl
  refine J_aload_n 0 rfl dX8_places_20 ?_
  refine gf_8_41 n30 dX8_places_21 ?_
  refine J_aload_n 0 rfl dX8_places_24 ?_
  refine gf_8_135 n30 dX8_places_25 ?_
  refine J_topeq (nI (mC m)) ((hM2.1 30 10 rfl).trans (by exact hn.2)) ?_
  refine J_iload_n 3 rfl dX8_places_28 ?_
  refine J_cast (I' := ku (ku (ku I 51 0 (mC m) f) 52 0 (mC m) t) 53 0 (mC m) u) (L' := L) (R' := R) (mC m) 1 n53 rfl rfl (vp_in_nI (by omega) (by decide)) (nI_toNat (by omega)) (by rw [hk]; rw [ku_own]; rfl) (fun k' i' h => ⟨ku_row _ _ h, rfl, rfl⟩) dX8_places_29 ?_
  have hM3 := MR_ms (k := 53) (j := (mC m)) (v := u) hM2 rfl
  refine J_aload_n 0 rfl dX8_places_30 ?_
  refine gf_8_45 n30 dX8_places_31 ?_
  refine J_aload_n 0 rfl dX8_places_34 ?_
  refine gf_8_135 n30 dX8_places_35 ?_
  refine J_topeq (nI (mC m)) ((hM3.1 30 10 rfl).trans (by exact hn.2)) ?_
  refine J_iload 4 rfl dX8_places_38 ?_
  refine J_iast (I' := ku (ku (ku (ku I 51 0 (mC m) f) 52 0 (mC m) t) 53 0 (mC m) u) 54 0 (mC m) k) (L' := L) (R' := R) (mC m) 0 n54 rfl rfl (vp_in_nI (by omega) (by decide)) (nI_toNat (by omega)) (by rw [ku_own]; rfl) (fun k' i' h => ⟨ku_row _ _ h, rfl, rfl⟩) dX8_places_40 ?_
  have hM4 := MR_ms (k := 54) (j := (mC m)) (v := k) hM3 rfl
  refine J_aload_n 0 rfl dX8_places_41 ?_
  refine gf_8_48 n30 dX8_places_42 ?_
  refine J_aload_n 0 rfl dX8_places_45 ?_
  refine gf_8_135 n30 dX8_places_46 ?_
  refine J_topeq (nI (mC m)) ((hM4.1 30 10 rfl).trans (by exact hn.2)) ?_
  refine J_bipush (v := 119) (by decide) dX8_places_49 ?_
  refine J_cast (I' := ku (ku (ku (ku (ku I 51 0 (mC m) f) 52 0 (mC m) t) 53 0 (mC m) u) 54 0 (mC m) k) 55 0 (mC m) 119) (L' := L) (R' := R) (mC m) 1 n55 rfl rfl (vp_in_nI (by omega) (by decide)) (nI_toNat (by omega)) (by rw [ku_own]; rfl) (fun k' i' h => ⟨ku_row _ _ h, rfl, rfl⟩) dX8_places_51 ?_
  have hM5 := MR_ms (k := 55) (j := (mC m)) (v := 119) hM4 rfl
  refine J_aload_n 0 rfl dX8_places_52 ?_
  refine gf_8_63 n30 dX8_places_53 ?_
  refine J_aload_n 0 rfl dX8_places_56 ?_
  refine gf_8_135 n30 dX8_places_57 ?_
  refine J_topeq (nI (mC m)) ((hM5.1 30 10 rfl).trans (by exact hn.2)) ?_
  refine J_aload_n 0 rfl dX8_places_60 ?_
  refine gf_8_85 n30 dX8_places_61 ?_
  refine J_topeq ((ms (ms (ms (ms (ms m 51 (mC m) f) 52 (mC m) t) 53 (mC m) u) 54 (mC m) k) 55 (mC m) 119).1 30 26) (hM5.1 30 26 rfl) ?_
  refine J_iast (I' := ku (ku (ku (ku (ku (ku I 51 0 (mC m) f) 52 0 (mC m) t) 53 0 (mC m) u) 54 0 (mC m) k) 55 0 (mC m) 119) 60 0 (mC m) ((ms (ms (ms (ms (ms m 51 (mC m) f) 52 (mC m) t) 53 (mC m) u) 54 (mC m) k) 55 (mC m) 119).1 30 26)) (L' := L) (R' := R) (mC m) 0 n60 rfl rfl (vp_in_nI (by omega) (by decide)) (nI_toNat (by omega)) (by rw [ku_own]; rfl) (fun k' i' h => ⟨ku_row _ _ h, rfl, rfl⟩) dX8_places_64 ?_
  have hM6 := MR_ms (k := 60) (j := (mC m)) (v := ((ms (ms (ms (ms (ms m 51 (mC m) f) 52 (mC m) t) 53 (mC m) u) 54 (mC m) k) 55 (mC m) 119).1 30 26)) hM5 rfl
  refine J_aload_n 0 rfl dX8_places_65 ?_
  refine J_bipush (v := 112) (by decide) dX8_places_66 ?_
  refine J_aload_n 0 rfl dX8_places_68 ?_
  refine gf_8_135 n30 dX8_places_69 ?_
  refine J_topeq (nI (mC m)) ((hM6.1 30 10 rfl).trans (by exact hn.2)) ?_
  refine cv_8_162 (cells' := 0) (slots' := 0) dX8_places_72 (c_X8_logs hM6 hg0 (by decide)) n30 ⟨by decide, by decide⟩ rfl rfl (by decide) (by decide) (Nat.le_of_ble_eq_true rfl) (fun _ _ r8 => ?_) (fun _ _ h => h.elim)
  obtain ⟨rfl, I7, L7, rfl, hM7⟩ := r8
  refine J_eq (st' := []) rfl rfl rfl ?_
  refine J_aload_n 0 rfl dX8_places_75 ?_
  refine J_dup rfl dX8_places_76 ?_
  refine gf_8_135 n30 dX8_places_77 ?_
  refine J_topeq ((mLog (ms (ms (ms (ms (ms (ms m 51 (mC m) f) 52 (mC m) t) 53 (mC m) u) 54 (mC m) k) 55 (mC m) 119) 60 (mC m) ((ms (ms (ms (ms (ms m 51 (mC m) f) 52 (mC m) t) 53 (mC m) u) 54 (mC m) k) 55 (mC m) 119).1 30 26)) 112 (nI (mC m))).1 30 10) ((hM7.1 30 10 rfl).trans (by rfl)) ?_
  refine J_iconst (v := 1) (by decide) dX8_places_80 ?_
  refine J_iadd dX8_places_81 ?_
  refine pf_8_135 n30 dX8_places_82 ?_
  have hM9 := MR_ms (k := 30) (j := 10) (v := (((mLog (ms (ms (ms (ms (ms (ms m 51 (mC m) f) 52 (mC m) t) 53 (mC m) u) 54 (mC m) k) 55 (mC m) 119) 60 (mC m) ((ms (ms (ms (ms (ms m 51 (mC m) f) 52 (mC m) t) 53 (mC m) u) 54 (mC m) k) 55 (mC m) 119).1 30 26)) 112 (nI (mC m))).1 30 10) + 1)) hM7 rfl
  exact J_return rfl dX8_places_85 (⟨rfl, _, _, rfl, hM9⟩) (by omega) (by omega)

set_option maxRecDepth 20000 in
set_option maxHeartbeats 1000000 in
theorem c_X8_misses {cy : Nat → ClassId} {S : Nat → Nat → Nat} {I : kI} {L : kL} {R : kRf} {m : Mu} {cd : Int32} {s : Nat} (hM : MR m cd I L) (hn : mN m) {B : Nat} (hI : Inv m B) (hB : B + 1 < 2 ^ 30) (hs : s < mS m) : Con yX8_misses cX8_misses 2 none 2 0 0 cy [.ref (ka S 30 0), .int (nI s)] (wm cy S I L R) (fun r w' => r = none ∧ MX cy S R (mMiss m s) cd w') kF := by
  have h150 := hI.2.2.1
  have h10 := hI.1
  have hg0 := inv_g hI (by omega)
  have hI1 := ms_inv (s := s) hI
  have hg1 := inv_g hI1 hB
  have hn1 : mN (msM m s) := hn
  by_cases hz : s = 0
  · have e1 : mMiss m s = msM m s := if_neg (fun z => z.1 hz)
    rw [e1]
    refine Con_of (by decide +kernel) (Nat.le_of_ble_eq_true rfl) ?_
    refine J_eq (lv' := [(0, .ref (ka S 30 0)), (1, .int (nI s))]) rfl rfl rfl ?_
    refine J_aload_n 0 rfl dX8_misses_0 ?_
    refine gf_8_26 n30 dX8_misses_1 ?_
    refine J_iload_n 1 rfl dX8_misses_4 ?_
    refine J_dup2 rfl rfl dX8_misses_5 ?_
    refine J_iald s 0 n46 rfl rfl (vp_in_nI (by omega) (by decide)) (nI_toNat (by omega)) dX8_misses_6 ?_
    refine J_topeq (m.1 46 s) (hM.1 46 s rfl) ?_
    refine J_iconst (v := 1) (by decide) dX8_misses_7 ?_
    refine J_iadd dX8_misses_8 ?_
    refine J_iast (I' := ku I 46 0 s ((m.1 46 s) + 1)) (L' := L) (R' := R) s 0 n46 rfl rfl (vp_in_nI (by omega) (by decide)) (nI_toNat (by omega)) (by rw [ku_own]; rfl) (fun k' i' h => ⟨ku_row _ _ h, rfl, rfl⟩) dX8_misses_9 ?_
    have hM1 := MR_ms (k := 46) (j := s) (v := ((m.1 46 s) + 1)) hM rfl
    refine J_aload_n 0 rfl dX8_misses_10 ?_
    refine gf_8_23 n30 dX8_misses_11 ?_
    refine J_iload_n 1 rfl dX8_misses_14 ?_
    refine J_aload_n 0 rfl dX8_misses_15 ?_
    refine gf_8_85 n30 dX8_misses_16 ?_
    refine J_topeq ((ms m 46 s ((m.1 46 s) + 1)).1 30 26) (hM1.1 30 26 rfl) ?_
    refine J_iast (I' := ku (ku I 46 0 s ((m.1 46 s) + 1)) 45 0 s ((ms m 46 s ((m.1 46 s) + 1)).1 30 26)) (L' := L) (R' := R) s 0 n45 rfl rfl (vp_in_nI (by omega) (by decide)) (nI_toNat (by omega)) (by rw [ku_own]; rfl) (fun k' i' h => ⟨ku_row _ _ h, rfl, rfl⟩) dX8_misses_19 ?_
    have hM2 := MR_ms (k := 45) (j := s) (v := ((ms m 46 s ((m.1 46 s) + 1)).1 30 26)) hM1 rfl
    refine J_aload_n 0 rfl dX8_misses_20 ?_
    refine J_bipush (v := 109) (by decide) dX8_misses_21 ?_
    refine J_iload_n 1 rfl dX8_misses_23 ?_
    refine cv_8_162 (cells' := 0) (slots' := 0) dX8_misses_24 (c_X8_logs hM2 hg0 (by decide)) n30 ⟨by decide, by decide⟩ rfl rfl (by decide) (by decide) (Nat.le_of_ble_eq_true rfl) (fun _ _ r4 => ?_) (fun _ _ h => h.elim)
    obtain ⟨rfl, I3, L3, rfl, hM3⟩ := r4
    refine J_eq (st' := []) rfl rfl rfl ?_
    refine J_iload_n 1 rfl dX8_misses_27 ?_
    refine J_if_le 47 (by decide) dX8_misses_28 (fun c5 => ?_) (fun c5 => ?_)
    rotate_left
    · exfalso
      have Nc5 : ¬ (s ≤ 0) := fun q => c5 ((nI_leI (a := s) (b := 0) (by omega) (by omega)).mpr q)
      omega
    have Nc5 : s ≤ 0 := (nI_leI (a := s) (b := 0) (by omega) (by omega)).mp c5
    exact J_return rfl dX8_misses_47 (⟨rfl, _, _, rfl, hM3⟩) (by omega) (by omega)
  · by_cases hf : mFull (msM m s) = false
    · have e1 : mMiss m s = mPlace (msM m s) (nI 0) (nI s) 115 1 := if_pos ⟨hz, hf⟩
      have hff := full_f hI1 hf
      rw [e1]
      refine Con_of (by decide +kernel) (Nat.le_of_ble_eq_true rfl) ?_
      refine J_eq (lv' := [(0, .ref (ka S 30 0)), (1, .int (nI s))]) rfl rfl rfl ?_
      refine J_aload_n 0 rfl dX8_misses_0 ?_
      refine gf_8_26 n30 dX8_misses_1 ?_
      refine J_iload_n 1 rfl dX8_misses_4 ?_
      refine J_dup2 rfl rfl dX8_misses_5 ?_
      refine J_iald s 0 n46 rfl rfl (vp_in_nI (by omega) (by decide)) (nI_toNat (by omega)) dX8_misses_6 ?_
      refine J_topeq (m.1 46 s) (hM.1 46 s rfl) ?_
      refine J_iconst (v := 1) (by decide) dX8_misses_7 ?_
      refine J_iadd dX8_misses_8 ?_
      refine J_iast (I' := ku I 46 0 s ((m.1 46 s) + 1)) (L' := L) (R' := R) s 0 n46 rfl rfl (vp_in_nI (by omega) (by decide)) (nI_toNat (by omega)) (by rw [ku_own]; rfl) (fun k' i' h => ⟨ku_row _ _ h, rfl, rfl⟩) dX8_misses_9 ?_
      have hM1 := MR_ms (k := 46) (j := s) (v := ((m.1 46 s) + 1)) hM rfl
      refine J_aload_n 0 rfl dX8_misses_10 ?_
      refine gf_8_23 n30 dX8_misses_11 ?_
      refine J_iload_n 1 rfl dX8_misses_14 ?_
      refine J_aload_n 0 rfl dX8_misses_15 ?_
      refine gf_8_85 n30 dX8_misses_16 ?_
      refine J_topeq ((ms m 46 s ((m.1 46 s) + 1)).1 30 26) (hM1.1 30 26 rfl) ?_
      refine J_iast (I' := ku (ku I 46 0 s ((m.1 46 s) + 1)) 45 0 s ((ms m 46 s ((m.1 46 s) + 1)).1 30 26)) (L' := L) (R' := R) s 0 n45 rfl rfl (vp_in_nI (by omega) (by decide)) (nI_toNat (by omega)) (by rw [ku_own]; rfl) (fun k' i' h => ⟨ku_row _ _ h, rfl, rfl⟩) dX8_misses_19 ?_
      have hM2 := MR_ms (k := 45) (j := s) (v := ((ms m 46 s ((m.1 46 s) + 1)).1 30 26)) hM1 rfl
      refine J_aload_n 0 rfl dX8_misses_20 ?_
      refine J_bipush (v := 109) (by decide) dX8_misses_21 ?_
      refine J_iload_n 1 rfl dX8_misses_23 ?_
      refine cv_8_162 (cells' := 0) (slots' := 0) dX8_misses_24 (c_X8_logs hM2 hg0 (by decide)) n30 ⟨by decide, by decide⟩ rfl rfl (by decide) (by decide) (Nat.le_of_ble_eq_true rfl) (fun _ _ r4 => ?_) (fun _ _ h => h.elim)
      obtain ⟨rfl, I3, L3, rfl, hM3⟩ := r4
      refine J_eq (st' := []) rfl rfl rfl ?_
      refine J_iload_n 1 rfl dX8_misses_27 ?_
      refine J_if_le 47 (by decide) dX8_misses_28 (fun c5 => ?_) (fun c5 => ?_)
      · exfalso
        have Nc5 : s ≤ 0 := (nI_leI (a := s) (b := 0) (by omega) (by omega)).mp c5
        omega
      have Nc5 : ¬ (s ≤ 0) := fun q => c5 ((nI_leI (a := s) (b := 0) (by omega) (by omega)).mpr q)
      refine J_aload_n 0 rfl dX8_misses_31 ?_
      refine cv_8_190 (cells' := 0) (slots' := 0) dX8_misses_32 (c_X8_isFull hM3 hn1 h150) n30 ⟨by decide, by decide⟩ rfl rfl (by decide) (by decide) (Nat.le_of_ble_eq_true rfl) (fun _ _ r6 => ?_) (fun _ _ h => h.elim)
      obtain ⟨rfl, rfl⟩ := r6
      refine J_eq (st' := [.int (kb (mFull (msM m s)))]) rfl rfl rfl ?_
      refine J_topeq 0 (by rw [hf]; rfl) ?_
      refine J_if_ne 47 (by decide) dX8_misses_35 (fun c7 => ?_) (fun c7 => ?_)
      · exact absurd (by decide) c7
      refine J_aload_n 0 rfl dX8_misses_38 ?_
      refine J_iconst (v := 0) (by decide) dX8_misses_39 ?_
      refine J_iload_n 1 rfl dX8_misses_40 ?_
      refine J_bipush (v := 115) (by decide) dX8_misses_41 ?_
      refine J_iconst (v := 1) (by decide) dX8_misses_43 ?_
      refine cv_8_194 (cells' := 0) (slots' := 0) dX8_misses_44 (c_X8_places (m := msM m s) hM3 hn1 hff.1 hg1 (by decide)) n30 ⟨by decide, by decide⟩ rfl rfl (by decide) (by decide) (Nat.le_of_ble_eq_true rfl) (fun _ _ r9 => ?_) (fun _ _ h => h.elim)
      obtain ⟨rfl, I8, L8, rfl, hM8⟩ := r9
      refine J_eq (st' := []) rfl rfl rfl ?_
      exact J_return rfl dX8_misses_47 (⟨rfl, _, _, rfl, hM8⟩) (by omega) (by omega)
    · have hf : mFull (msM m s) = true := by simpa using hf
      have e1 : mMiss m s = msM m s := if_neg (fun z => by rw [hf] at z; exact absurd z.2 (by decide))
      rw [e1]
      refine Con_of (by decide +kernel) (Nat.le_of_ble_eq_true rfl) ?_
      refine J_eq (lv' := [(0, .ref (ka S 30 0)), (1, .int (nI s))]) rfl rfl rfl ?_
      refine J_aload_n 0 rfl dX8_misses_0 ?_
      refine gf_8_26 n30 dX8_misses_1 ?_
      refine J_iload_n 1 rfl dX8_misses_4 ?_
      refine J_dup2 rfl rfl dX8_misses_5 ?_
      refine J_iald s 0 n46 rfl rfl (vp_in_nI (by omega) (by decide)) (nI_toNat (by omega)) dX8_misses_6 ?_
      refine J_topeq (m.1 46 s) (hM.1 46 s rfl) ?_
      refine J_iconst (v := 1) (by decide) dX8_misses_7 ?_
      refine J_iadd dX8_misses_8 ?_
      refine J_iast (I' := ku I 46 0 s ((m.1 46 s) + 1)) (L' := L) (R' := R) s 0 n46 rfl rfl (vp_in_nI (by omega) (by decide)) (nI_toNat (by omega)) (by rw [ku_own]; rfl) (fun k' i' h => ⟨ku_row _ _ h, rfl, rfl⟩) dX8_misses_9 ?_
      have hM1 := MR_ms (k := 46) (j := s) (v := ((m.1 46 s) + 1)) hM rfl
      refine J_aload_n 0 rfl dX8_misses_10 ?_
      refine gf_8_23 n30 dX8_misses_11 ?_
      refine J_iload_n 1 rfl dX8_misses_14 ?_
      refine J_aload_n 0 rfl dX8_misses_15 ?_
      refine gf_8_85 n30 dX8_misses_16 ?_
      refine J_topeq ((ms m 46 s ((m.1 46 s) + 1)).1 30 26) (hM1.1 30 26 rfl) ?_
      refine J_iast (I' := ku (ku I 46 0 s ((m.1 46 s) + 1)) 45 0 s ((ms m 46 s ((m.1 46 s) + 1)).1 30 26)) (L' := L) (R' := R) s 0 n45 rfl rfl (vp_in_nI (by omega) (by decide)) (nI_toNat (by omega)) (by rw [ku_own]; rfl) (fun k' i' h => ⟨ku_row _ _ h, rfl, rfl⟩) dX8_misses_19 ?_
      have hM2 := MR_ms (k := 45) (j := s) (v := ((ms m 46 s ((m.1 46 s) + 1)).1 30 26)) hM1 rfl
      refine J_aload_n 0 rfl dX8_misses_20 ?_
      refine J_bipush (v := 109) (by decide) dX8_misses_21 ?_
      refine J_iload_n 1 rfl dX8_misses_23 ?_
      refine cv_8_162 (cells' := 0) (slots' := 0) dX8_misses_24 (c_X8_logs hM2 hg0 (by decide)) n30 ⟨by decide, by decide⟩ rfl rfl (by decide) (by decide) (Nat.le_of_ble_eq_true rfl) (fun _ _ r4 => ?_) (fun _ _ h => h.elim)
      obtain ⟨rfl, I3, L3, rfl, hM3⟩ := r4
      refine J_eq (st' := []) rfl rfl rfl ?_
      refine J_iload_n 1 rfl dX8_misses_27 ?_
      refine J_if_le 47 (by decide) dX8_misses_28 (fun c5 => ?_) (fun c5 => ?_)
      · exfalso
        have Nc5 : s ≤ 0 := (nI_leI (a := s) (b := 0) (by omega) (by omega)).mp c5
        omega
      have Nc5 : ¬ (s ≤ 0) := fun q => c5 ((nI_leI (a := s) (b := 0) (by omega) (by omega)).mpr q)
      refine J_aload_n 0 rfl dX8_misses_31 ?_
      refine cv_8_190 (cells' := 0) (slots' := 0) dX8_misses_32 (c_X8_isFull hM3 hn1 h150) n30 ⟨by decide, by decide⟩ rfl rfl (by decide) (by decide) (Nat.le_of_ble_eq_true rfl) (fun _ _ r6 => ?_) (fun _ _ h => h.elim)
      obtain ⟨rfl, rfl⟩ := r6
      refine J_eq (st' := [.int (kb (mFull (msM m s)))]) rfl rfl rfl ?_
      refine J_topeq 1 (by rw [hf]; rfl) ?_
      refine J_if_ne 47 (by decide) dX8_misses_35 (fun c7 => ?_) (fun c7 => ?_)
      rotate_left
      · exact absurd c7 (by decide)
      exact J_return rfl dX8_misses_47 (⟨rfl, _, _, rfl, hM3⟩) (by omega) (by omega)

set_option maxRecDepth 20000 in
set_option maxHeartbeats 1000000 in
theorem ls_X8_passes {cy : Nat → ClassId} {S : Nat → Nat → Nat} {I : kI} {L : kL} {R : kRf} {m : Mu} {cd : Int32} {Q : kQT} {h n : Nat} (hM : MR m cd I L) (hn : mN m) {B : Nat} (hI : Inv m B) (hB : B + 1 < 2 ^ 30) (hh3 : h < 3) (kk : ∀ (I : kI) (L : kL), MR (mMin h (m, n)).1 cd I L → J yX8_passes.cls yX8_passes.name cX8_passes 4 (some .int) 6 0 0 cy Q kF 30 [(0, .ref (ka S 30 0)), (1, .int (nI (mMin h (m, n)).2)), (2, .int (nI (h + 1)))] [] (wm cy S I L R) 0 0) : J yX8_passes.cls yX8_passes.name cX8_passes 4 (some .int) 6 0 0 cy Q kF 30 [(0, .ref (ka S 30 0)), (1, .int (nI n)), (2, .int (nI h))] [] (wm cy S I L R) 0 0 := by
  have h150 := hI.2.2.1
  have hg0 := inv_g hI (by omega)
  rcases opt_split (mOn m h) with hm | ⟨c, hm⟩
  · have e : mMin h (m, n) = (m, n) := by unfold mMin; rw [hm]
    rw [e] at kk
    refine J_iload_n 2 rfl dX8_passes_30 ?_
    refine J_iconst (v := 3) (by decide) dX8_passes_31 ?_
    refine J_icmp_ge 104 (by decide) dX8_passes_32 (fun c1 => ?_) (fun c1 => ?_)
    · exfalso
      have Nc1 : 3 ≤ h := (nI_leI (a := 3) (b := h) (by omega) (by omega)).mp c1
      omega
    have Nc1 : ¬ (3 ≤ h) := fun q => c1 ((nI_leI (a := 3) (b := h) (by omega) (by omega)).mpr q)
    refine J_aload_n 0 rfl dX8_passes_35 ?_
    refine J_iload_n 2 rfl dX8_passes_36 ?_
    refine cv_8_153 (cells' := 0) (slots' := 0) dX8_passes_37 (c_X8_speaker (h := h) hM hn h150) n30 ⟨by decide, by decide⟩ rfl rfl (by decide) (by decide) (Nat.le_of_ble_eq_true rfl) (fun _ _ r2 => ?_) (fun _ _ h => h.elim)
    obtain ⟨rfl, rfl⟩ := r2
    refine J_eq (st' := [.int (oI (mOn m h))]) rfl rfl rfl ?_
    refine J_topeq (-1) (by rw [hm]; rfl) ?_
    refine J_istore_n (lv' := [(0, .ref (ka S 30 0)), (1, .int (nI n)), (2, .int (nI h)), (3, .int (-1))]) (by decide) rfl dX8_passes_40 ?_
    refine J_iload_n 3 rfl dX8_passes_41 ?_
    refine J_if_ge 48 (by decide) dX8_passes_42 (fun c3 => ?_) (fun c3 => ?_)
    · exact absurd c3 (by decide)
    refine J_goto 98 (by decide) dX8_passes_45 ?_
    refine J_iinc (v := (nI (h + 1))) (lv' := [(0, .ref (ka S 30 0)), (1, .int (nI n)), (2, .int (nI (h + 1))), (3, .int (-1))]) 2 rfl (by exact nI_add h 1) (by decide) rfl dX8_passes_98 ?_
    refine J_goto 30 (by decide) dX8_passes_101 ?_
    refine J_sub (lv' := [(0, .ref (ka S 30 0)), (1, .int (nI n)), (2, .int (nI (h + 1)))]) [0, 1, 2] rfl ?_
    exact kk _ _ hM
  · have hc := (mOn_some hm).1
    by_cases hp : 0 < m.1 54 c - 1
    · have e : mMin h (m, n) = (mnM m h c, n) := by unfold mMin; rw [hm]; exact if_pos hp
      rw [e] at kk
      refine J_iload_n 2 rfl dX8_passes_30 ?_
      refine J_iconst (v := 3) (by decide) dX8_passes_31 ?_
      refine J_icmp_ge 104 (by decide) dX8_passes_32 (fun c1 => ?_) (fun c1 => ?_)
      · exfalso
        have Nc1 : 3 ≤ h := (nI_leI (a := 3) (b := h) (by omega) (by omega)).mp c1
        omega
      have Nc1 : ¬ (3 ≤ h) := fun q => c1 ((nI_leI (a := 3) (b := h) (by omega) (by omega)).mpr q)
      refine J_aload_n 0 rfl dX8_passes_35 ?_
      refine J_iload_n 2 rfl dX8_passes_36 ?_
      refine cv_8_153 (cells' := 0) (slots' := 0) dX8_passes_37 (c_X8_speaker (h := h) hM hn h150) n30 ⟨by decide, by decide⟩ rfl rfl (by decide) (by decide) (Nat.le_of_ble_eq_true rfl) (fun _ _ r2 => ?_) (fun _ _ h => h.elim)
      obtain ⟨rfl, rfl⟩ := r2
      refine J_eq (st' := [.int (oI (mOn m h))]) rfl rfl rfl ?_
      refine J_topeq (nI c) (by rw [hm]; rfl) ?_
      refine J_istore_n (lv' := [(0, .ref (ka S 30 0)), (1, .int (nI n)), (2, .int (nI h)), (3, .int (nI c))]) (by decide) rfl dX8_passes_40 ?_
      refine J_iload_n 3 rfl dX8_passes_41 ?_
      refine J_if_ge 48 (by decide) dX8_passes_42 (fun c3 => ?_) (fun c3 => ?_)
      rotate_left
      · exfalso
        have Nc3 : ¬ (0 ≤ c) := fun q => c3 ((nI_leI (a := 0) (b := c) (by omega) (by omega)).mpr q)
        omega
      have Nc3 : 0 ≤ c := (nI_leI (a := 0) (b := c) (by omega) (by omega)).mp c3
      refine J_aload_n 0 rfl dX8_passes_48 ?_
      refine gf_8_66 n30 dX8_passes_49 ?_
      refine J_iload_n 2 rfl dX8_passes_52 ?_
      refine J_dup2 rfl rfl dX8_passes_53 ?_
      refine J_iald h 0 n64 rfl rfl (vp_in_nI (by omega) (by decide)) (nI_toNat (by omega)) dX8_passes_54 ?_
      refine J_topeq (m.1 64 h) ((hM.1 64 h rfl).trans (by rfl)) ?_
      refine J_iconst (v := 1) (by decide) dX8_passes_55 ?_
      refine J_iadd dX8_passes_56 ?_
      refine J_iast (I' := ku I 64 0 h ((m.1 64 h) + 1)) (L' := L) (R' := R) h 0 n64 rfl rfl (vp_in_nI (by omega) (by decide)) (nI_toNat (by omega)) (by rw [ku_own]; rfl) (fun k' i' h => ⟨ku_row _ _ h, rfl, rfl⟩) dX8_passes_57 ?_
      have hM4 := MR_ms (k := 64) (j := h) (v := ((m.1 64 h) + 1)) hM rfl
      refine J_aload_n 0 rfl dX8_passes_58 ?_
      refine gf_8_45 n30 dX8_passes_59 ?_
      refine J_iload_n 3 rfl dX8_passes_62 ?_
      refine J_dup2 rfl rfl dX8_passes_63 ?_
      refine J_iald c 0 n54 rfl rfl (vp_in_nI (by omega) (by decide)) (nI_toNat (by omega)) dX8_passes_64 ?_
      refine J_topeq (m.1 54 c) ((hM4.1 54 c rfl).trans (by rfl)) ?_
      refine J_iconst (v := 1) (by decide) dX8_passes_65 ?_
      refine J_isub dX8_passes_66 ?_
      refine J_iast (I' := ku (ku I 64 0 h ((m.1 64 h) + 1)) 54 0 c ((m.1 54 c) - 1)) (L' := L) (R' := R) c 0 n54 rfl rfl (vp_in_nI (by omega) (by decide)) (nI_toNat (by omega)) (by rw [ku_own]; rfl) (fun k' i' h => ⟨ku_row _ _ h, rfl, rfl⟩) dX8_passes_67 ?_
      have hM5 := MR_ms (k := 54) (j := c) (v := ((m.1 54 c) - 1)) hM4 rfl
      refine J_aload_n 0 rfl dX8_passes_68 ?_
      refine gf_8_45 n30 dX8_passes_69 ?_
      refine J_iload_n 3 rfl dX8_passes_72 ?_
      refine J_iald c 0 n54 rfl rfl (vp_in_nI (by omega) (by decide)) (nI_toNat (by omega)) dX8_passes_73 ?_
      refine J_topeq (m.1 54 c - 1) ((hM5.1 54 c rfl).trans (by rw [ms_eq])) ?_
      refine J_if_le 80 (by decide) dX8_passes_74 (fun c6 => ?_) (fun c6 => ?_)
      · exfalso
        exact absurd hp (by grind)
      refine J_goto 98 (by decide) dX8_passes_77 ?_
      refine J_iinc (v := (nI (h + 1))) (lv' := [(0, .ref (ka S 30 0)), (1, .int (nI n)), (2, .int (nI (h + 1))), (3, .int (nI c))]) 2 rfl (by exact nI_add h 1) (by decide) rfl dX8_passes_98 ?_
      refine J_goto 30 (by decide) dX8_passes_101 ?_
      refine J_sub (lv' := [(0, .ref (ka S 30 0)), (1, .int (nI n)), (2, .int (nI (h + 1)))]) [0, 1, 2] rfl ?_
      exact kk _ _ hM5
    · have e : mMin h (m, n) = (mEnd (mnM m h c) c, n + 1) := by unfold mMin; rw [hm]; exact if_neg hp
      rw [e] at kk
      refine J_iload_n 2 rfl dX8_passes_30 ?_
      refine J_iconst (v := 3) (by decide) dX8_passes_31 ?_
      refine J_icmp_ge 104 (by decide) dX8_passes_32 (fun c1 => ?_) (fun c1 => ?_)
      · exfalso
        have Nc1 : 3 ≤ h := (nI_leI (a := 3) (b := h) (by omega) (by omega)).mp c1
        omega
      have Nc1 : ¬ (3 ≤ h) := fun q => c1 ((nI_leI (a := 3) (b := h) (by omega) (by omega)).mpr q)
      refine J_aload_n 0 rfl dX8_passes_35 ?_
      refine J_iload_n 2 rfl dX8_passes_36 ?_
      refine cv_8_153 (cells' := 0) (slots' := 0) dX8_passes_37 (c_X8_speaker (h := h) hM hn h150) n30 ⟨by decide, by decide⟩ rfl rfl (by decide) (by decide) (Nat.le_of_ble_eq_true rfl) (fun _ _ r2 => ?_) (fun _ _ h => h.elim)
      obtain ⟨rfl, rfl⟩ := r2
      refine J_eq (st' := [.int (oI (mOn m h))]) rfl rfl rfl ?_
      refine J_topeq (nI c) (by rw [hm]; rfl) ?_
      refine J_istore_n (lv' := [(0, .ref (ka S 30 0)), (1, .int (nI n)), (2, .int (nI h)), (3, .int (nI c))]) (by decide) rfl dX8_passes_40 ?_
      refine J_iload_n 3 rfl dX8_passes_41 ?_
      refine J_if_ge 48 (by decide) dX8_passes_42 (fun c3 => ?_) (fun c3 => ?_)
      rotate_left
      · exfalso
        have Nc3 : ¬ (0 ≤ c) := fun q => c3 ((nI_leI (a := 0) (b := c) (by omega) (by omega)).mpr q)
        omega
      have Nc3 : 0 ≤ c := (nI_leI (a := 0) (b := c) (by omega) (by omega)).mp c3
      refine J_aload_n 0 rfl dX8_passes_48 ?_
      refine gf_8_66 n30 dX8_passes_49 ?_
      refine J_iload_n 2 rfl dX8_passes_52 ?_
      refine J_dup2 rfl rfl dX8_passes_53 ?_
      refine J_iald h 0 n64 rfl rfl (vp_in_nI (by omega) (by decide)) (nI_toNat (by omega)) dX8_passes_54 ?_
      refine J_topeq (m.1 64 h) ((hM.1 64 h rfl).trans (by rfl)) ?_
      refine J_iconst (v := 1) (by decide) dX8_passes_55 ?_
      refine J_iadd dX8_passes_56 ?_
      refine J_iast (I' := ku I 64 0 h ((m.1 64 h) + 1)) (L' := L) (R' := R) h 0 n64 rfl rfl (vp_in_nI (by omega) (by decide)) (nI_toNat (by omega)) (by rw [ku_own]; rfl) (fun k' i' h => ⟨ku_row _ _ h, rfl, rfl⟩) dX8_passes_57 ?_
      have hM4 := MR_ms (k := 64) (j := h) (v := ((m.1 64 h) + 1)) hM rfl
      refine J_aload_n 0 rfl dX8_passes_58 ?_
      refine gf_8_45 n30 dX8_passes_59 ?_
      refine J_iload_n 3 rfl dX8_passes_62 ?_
      refine J_dup2 rfl rfl dX8_passes_63 ?_
      refine J_iald c 0 n54 rfl rfl (vp_in_nI (by omega) (by decide)) (nI_toNat (by omega)) dX8_passes_64 ?_
      refine J_topeq (m.1 54 c) ((hM4.1 54 c rfl).trans (by rfl)) ?_
      refine J_iconst (v := 1) (by decide) dX8_passes_65 ?_
      refine J_isub dX8_passes_66 ?_
      refine J_iast (I' := ku (ku I 64 0 h ((m.1 64 h) + 1)) 54 0 c ((m.1 54 c) - 1)) (L' := L) (R' := R) c 0 n54 rfl rfl (vp_in_nI (by omega) (by decide)) (nI_toNat (by omega)) (by rw [ku_own]; rfl) (fun k' i' h => ⟨ku_row _ _ h, rfl, rfl⟩) dX8_passes_67 ?_
      have hM5 := MR_ms (k := 54) (j := c) (v := ((m.1 54 c) - 1)) hM4 rfl
      refine J_aload_n 0 rfl dX8_passes_68 ?_
      refine gf_8_45 n30 dX8_passes_69 ?_
      refine J_iload_n 3 rfl dX8_passes_72 ?_
      refine J_iald c 0 n54 rfl rfl (vp_in_nI (by omega) (by decide)) (nI_toNat (by omega)) dX8_passes_73 ?_
      refine J_topeq (m.1 54 c - 1) ((hM5.1 54 c rfl).trans (by rw [ms_eq])) ?_
      refine J_if_le 80 (by decide) dX8_passes_74 (fun c6 => ?_) (fun c6 => ?_)
      rotate_left
      · exfalso
        exact hp (by grind)
      refine J_aload_n 0 rfl dX8_passes_80 ?_
      refine gf_8_48 n30 dX8_passes_81 ?_
      refine J_iload_n 3 rfl dX8_passes_84 ?_
      refine J_bipush (v := 101) (by decide) dX8_passes_85 ?_
      refine J_cast (I' := ku (ku (ku I 64 0 h ((m.1 64 h) + 1)) 54 0 c ((m.1 54 c) - 1)) 55 0 c 101) (L' := L) (R' := R) c 1 n55 rfl rfl (vp_in_nI (by omega) (by decide)) (nI_toNat (by omega)) (by rw [ku_own]; rfl) (fun k' i' h => ⟨ku_row _ _ h, rfl, rfl⟩) dX8_passes_87 ?_
      have hM7 := MR_ms (k := 55) (j := c) (v := 101) hM5 rfl
      refine J_aload_n 0 rfl dX8_passes_88 ?_
      refine J_bipush (v := 101) (by decide) dX8_passes_89 ?_
      refine J_iload_n 3 rfl dX8_passes_91 ?_
      refine cv_8_162 (cells' := 0) (slots' := 0) dX8_passes_92 (c_X8_logs hM7 hg0 (by decide)) n30 ⟨by decide, by decide⟩ rfl rfl (by decide) (by decide) (Nat.le_of_ble_eq_true rfl) (fun _ _ r9 => ?_) (fun _ _ h => h.elim)
      obtain ⟨rfl, I8, L8, rfl, hM8⟩ := r9
      refine J_eq (st' := []) rfl rfl rfl ?_
      refine J_iinc (v := (nI (n + 1))) (lv' := [(0, .ref (ka S 30 0)), (1, .int (nI (n + 1))), (2, .int (nI h)), (3, .int (nI c))]) 1 rfl (by exact nI_add n 1) (by decide) rfl dX8_passes_95 ?_
      refine J_iinc (v := (nI (h + 1))) (lv' := [(0, .ref (ka S 30 0)), (1, .int (nI (n + 1))), (2, .int (nI (h + 1))), (3, .int (nI c))]) 2 rfl (by exact nI_add h 1) (by decide) rfl dX8_passes_98 ?_
      refine J_goto 30 (by decide) dX8_passes_101 ?_
      refine J_sub (lv' := [(0, .ref (ka S 30 0)), (1, .int (nI (n + 1))), (2, .int (nI (h + 1)))]) [0, 1, 2] rfl ?_
      exact kk _ _ hM8

set_option maxRecDepth 20000 in
set_option maxHeartbeats 1000000 in
theorem lw_X8_passes {cy : Nat → ClassId} {S : Nat → Nat → Nat} {R : kRf} {m : Mu} {cd z : Int32} (hn : mN m) {B : Nat} (hI : Inv m B) (hB : B + 4040 < 2 ^ 30) : ∀ (j s : Nat) (I : kI) (L : kL), s + j = mS m → MR (mLookUp s m) cd I L → J yX8_passes.cls yX8_passes.name cX8_passes 4 (some .int) 6 0 0 cy (fun r w' => r = some (.int z) ∧ MX cy S R (mSpeak (mLook m)) cd w') kF 106 [(0, .ref (ka S 30 0)), (1, .int z), (2, .int (nI s))] [] (wm cy S I L R) 0 0 := by
  have hS10 := hI.1
  intro j
  induction j with
  | zero =>
    intro s I L hs hM
    have hs : s = mS m := by omega
    subst hs
    obtain ⟨i1, i2, i3⟩ := look_inv hn.2 hI (Nat.le_refl (mS m))
    have hn2 := mN_look hn hI (Nat.le_refl (mS m))
    refine J_iload_n 2 rfl dX8_passes_106 ?_
    refine J_aload_n 0 rfl dX8_passes_107 ?_
    refine gf_8_88 n30 dX8_passes_108 ?_
    refine J_topeq (nI (mS m)) ((hM.1 30 0 rfl).trans (by exact hn2.1.trans (by rw [i3]))) ?_
    refine J_icmp_ge 163 (by decide) dX8_passes_111 (fun c1 => ?_) (fun c1 => ?_)
    rotate_left
    · exfalso
      have Nc1 : ¬ ((mS m) ≤ (mS m)) := fun q => c1 ((nI_leI (a := (mS m)) (b := (mS m)) (by omega) (by omega)).mpr q)
      omega
    have Nc1 : (mS m) ≤ (mS m) := (nI_leI (a := (mS m)) (b := (mS m)) (by omega) (by omega)).mp c1
    refine J_aload_n 0 rfl dX8_passes_163 ?_
    refine cv_8_117 (cells' := 0) (slots' := 0) dX8_passes_164 (c_X8_letsSpeak hM hn2 i1 (by omega)) n30 ⟨by decide, by decide⟩ rfl rfl (by decide) (by decide) (Nat.le_of_ble_eq_true rfl) (fun _ _ r3 => ?_) (fun _ _ h => h.elim)
    obtain ⟨rfl, I2, L2, rfl, hM2⟩ := r3
    refine J_eq (st' := []) rfl rfl rfl ?_
    refine J_iload_n 1 rfl dX8_passes_167 ?_
    exact J_ireturn rfl (by first | rfl | assumption | simp [kb_nar]) dX8_passes_168 (⟨rfl, _, _, rfl, hM2⟩) (by omega) (by omega)
  | succ j ih =>
    intro s I L hs hM
    obtain ⟨i1, i2, i3⟩ := look_inv hn.2 hI (s := s) (by omega)
    have hn2 := mN_look hn hI (s := s) (by omega)
    have e0 : mLookUp (s + 1) m = if mDue (mLookUp s m) s = true then mMiss (mLookUp s m) s else mLookUp s m := rfl
    refine J_iload_n 2 rfl dX8_passes_106 ?_
    refine J_aload_n 0 rfl dX8_passes_107 ?_
    refine gf_8_88 n30 dX8_passes_108 ?_
    refine J_topeq (nI (mS m)) ((hM.1 30 0 rfl).trans (by exact hn2.1.trans (by rw [i3]))) ?_
    refine J_icmp_ge 163 (by decide) dX8_passes_111 (fun c1 => ?_) (fun c1 => ?_)
    · exfalso
      have Nc1 : (mS m) ≤ s := (nI_leI (a := (mS m)) (b := s) (by omega) (by omega)).mp c1
      omega
    have Nc1 : ¬ ((mS m) ≤ s) := fun q => c1 ((nI_leI (a := (mS m)) (b := s) (by omega) (by omega)).mpr q)
    refine J_aload_n 0 rfl dX8_passes_114 ?_
    refine gf_8_16 n30 dX8_passes_115 ?_
    refine J_iload_n 2 rfl dX8_passes_118 ?_
    refine J_zald s 2 n43 rfl rfl (vp_in_nI (by omega) (by decide)) (nI_toNat (by omega)) dX8_passes_119 ?_
    refine J_topeq ((mLookUp s m).1 43 s) (hM.1 43 s rfl) ?_
    refine J_if_ne 157 (by decide) dX8_passes_120 (fun c2 => ?_) (fun c2 => ?_)
    · skip
      refine J_iinc (v := (nI (s + 1))) (lv' := [(0, .ref (ka S 30 0)), (1, .int z), (2, .int (nI (s + 1)))]) 2 rfl (by exact nI_add s 1) (by decide) rfl dX8_passes_157 ?_
      refine J_goto 106 (by decide) dX8_passes_160 ?_
      have hd : mDue (mLookUp s m) s = false := by unfold mDue; first | (rw [decide_eq_true (by assumption), decide_eq_true (by grind), decide_eq_true (by grind)]; rfl) | (rw [decide_eq_false (p := (mLookUp s m).1 43 s = 0) (by assumption)]; rfl) | (rw [decide_eq_false (p := 0 < (mLookUp s m).1 44 s) (by grind), Bool.false_and, Bool.and_false]) | (rw [decide_eq_false (p := (mLookUp s m).1 44 s < (mLookUp s m).1 30 26 - (mLookUp s m).1 45 s) (by grind), Bool.and_false, Bool.and_false])
      rw [hd] at e0
      exact ih (s + 1) _ _ (by omega) (by rw [e0]; exact hM)
    · skip
      refine J_aload_n 0 rfl dX8_passes_123 ?_
      refine gf_8_20 n30 dX8_passes_124 ?_
      refine J_iload_n 2 rfl dX8_passes_127 ?_
      refine J_iald s 0 n44 rfl rfl (vp_in_nI (by omega) (by decide)) (nI_toNat (by omega)) dX8_passes_128 ?_
      refine J_topeq ((mLookUp s m).1 44 s) (hM.1 44 s rfl) ?_
      refine J_if_le 157 (by decide) dX8_passes_129 (fun c4 => ?_) (fun c4 => ?_)
      · skip
        refine J_iinc (v := (nI (s + 1))) (lv' := [(0, .ref (ka S 30 0)), (1, .int z), (2, .int (nI (s + 1)))]) 2 rfl (by exact nI_add s 1) (by decide) rfl dX8_passes_157 ?_
        refine J_goto 106 (by decide) dX8_passes_160 ?_
        have hd : mDue (mLookUp s m) s = false := by unfold mDue; first | (rw [decide_eq_true (by assumption), decide_eq_true (by grind), decide_eq_true (by grind)]; rfl) | (rw [decide_eq_false (p := (mLookUp s m).1 43 s = 0) (by assumption)]; rfl) | (rw [decide_eq_false (p := 0 < (mLookUp s m).1 44 s) (by grind), Bool.false_and, Bool.and_false]) | (rw [decide_eq_false (p := (mLookUp s m).1 44 s < (mLookUp s m).1 30 26 - (mLookUp s m).1 45 s) (by grind), Bool.and_false, Bool.and_false])
        rw [hd] at e0
        exact ih (s + 1) _ _ (by omega) (by rw [e0]; exact hM)
      · skip
        refine J_aload_n 0 rfl dX8_passes_132 ?_
        refine gf_8_85 n30 dX8_passes_133 ?_
        refine J_topeq ((mLookUp s m).1 30 26) (hM.1 30 26 rfl) ?_
        refine J_aload_n 0 rfl dX8_passes_136 ?_
        refine gf_8_23 n30 dX8_passes_137 ?_
        refine J_iload_n 2 rfl dX8_passes_140 ?_
        refine J_iald s 0 n45 rfl rfl (vp_in_nI (by omega) (by decide)) (nI_toNat (by omega)) dX8_passes_141 ?_
        refine J_topeq ((mLookUp s m).1 45 s) (hM.1 45 s rfl) ?_
        refine J_isub dX8_passes_142 ?_
        refine J_aload_n 0 rfl dX8_passes_143 ?_
        refine gf_8_20 n30 dX8_passes_144 ?_
        refine J_iload_n 2 rfl dX8_passes_147 ?_
        refine J_iald s 0 n44 rfl rfl (vp_in_nI (by omega) (by decide)) (nI_toNat (by omega)) dX8_passes_148 ?_
        refine J_topeq ((mLookUp s m).1 44 s) (hM.1 44 s rfl) ?_
        refine J_icmp_le 157 (by decide) dX8_passes_149 (fun c6 => ?_) (fun c6 => ?_)
        · skip
          refine J_iinc (v := (nI (s + 1))) (lv' := [(0, .ref (ka S 30 0)), (1, .int z), (2, .int (nI (s + 1)))]) 2 rfl (by exact nI_add s 1) (by decide) rfl dX8_passes_157 ?_
          refine J_goto 106 (by decide) dX8_passes_160 ?_
          have hd : mDue (mLookUp s m) s = false := by unfold mDue; first | (rw [decide_eq_true (by assumption), decide_eq_true (by grind), decide_eq_true (by grind)]; rfl) | (rw [decide_eq_false (p := (mLookUp s m).1 43 s = 0) (by assumption)]; rfl) | (rw [decide_eq_false (p := 0 < (mLookUp s m).1 44 s) (by grind), Bool.false_and, Bool.and_false]) | (rw [decide_eq_false (p := (mLookUp s m).1 44 s < (mLookUp s m).1 30 26 - (mLookUp s m).1 45 s) (by grind), Bool.and_false, Bool.and_false])
          rw [hd] at e0
          exact ih (s + 1) _ _ (by omega) (by rw [e0]; exact hM)
        · skip
          refine J_aload_n 0 rfl dX8_passes_152 ?_
          refine J_iload_n 2 rfl dX8_passes_153 ?_
          refine cv_8_213 (cells' := 0) (slots' := 0) dX8_passes_154 (c_X8_misses (m := mLookUp s m) hM hn2 i1 (by omega) (by omega)) n30 ⟨by decide, by decide⟩ rfl rfl (by decide) (by decide) (Nat.le_of_ble_eq_true rfl) (fun _ _ r9 => ?_) (fun _ _ h => h.elim)
          obtain ⟨rfl, I8, L8, rfl, hM8⟩ := r9
          refine J_eq (st' := []) rfl rfl rfl ?_
          refine J_iinc (v := (nI (s + 1))) (lv' := [(0, .ref (ka S 30 0)), (1, .int z), (2, .int (nI (s + 1)))]) 2 rfl (by exact nI_add s 1) (by decide) rfl dX8_passes_157 ?_
          refine J_goto 106 (by decide) dX8_passes_160 ?_
          have hd : mDue (mLookUp s m) s = true := by unfold mDue; first | (rw [decide_eq_true (by assumption), decide_eq_true (by grind), decide_eq_true (by grind)]; rfl) | (rw [decide_eq_false (p := (mLookUp s m).1 43 s = 0) (by assumption)]; rfl) | (rw [decide_eq_false (p := 0 < (mLookUp s m).1 44 s) (by grind), Bool.false_and, Bool.and_false]) | (rw [decide_eq_false (p := (mLookUp s m).1 44 s < (mLookUp s m).1 30 26 - (mLookUp s m).1 45 s) (by grind), Bool.and_false, Bool.and_false])
          rw [hd] at e0
          exact ih (s + 1) _ _ (by omega) (by rw [e0]; exact hM8)

set_option maxRecDepth 20000 in
set_option maxHeartbeats 1000000 in
theorem c_X8_passes {cy : Nat → ClassId} {S : Nat → Nat → Nat} {I : kI} {L : kL} {R : kRf} {m : Mu} {cd : Int32} (hM : MR m cd I L) (hn : mN m) {B : Nat} (hI : Inv m B) (hB : B + 8100 < 2 ^ 30) : Con yX8_passes cX8_passes 4 (some .int) 6 0 0 cy [.ref (ka S 30 0)] (wm cy S I L R) (fun r w' => r = some (.int (nI (mMins (mTick m)).2)) ∧ MX cy S R (mPass1 m) cd w') kF := by
  have h150 := hI.2.2.1
  have it := tick_inv hI
  have hnt : mN (mTick m) := hn
  have i1 : Inv (mMin 0 (mTick m, 0)).1 (B + 4000 + 1) := min_inv it
  have i2 : Inv (mMin 1 (mMin 0 (mTick m, 0))).1 (B + 4000 + 2) := min_inv (n := _) i1
  have i3 := mins_inv it
  refine Con_of (by decide +kernel) (Nat.le_of_ble_eq_true rfl) ?_
  refine J_eq (lv' := [(0, .ref (ka S 30 0))]) rfl rfl rfl ?_
  refine J_iconst (v := 0) (by decide) dX8_passes_0 ?_
  refine J_istore_n (lv' := [(0, .ref (ka S 30 0)), (1, .int 0)]) (by decide) rfl dX8_passes_1 ?_
  refine J_aload_n 0 rfl dX8_passes_2 ?_
  refine J_dup rfl dX8_passes_3 ?_
  refine gf_8_85 n30 dX8_passes_4 ?_
  refine J_topeq (m.1 30 26) (hM.1 30 26 rfl) ?_
  refine J_iconst (v := 1) (by decide) dX8_passes_7 ?_
  refine J_iadd dX8_passes_8 ?_
  refine pf_8_85 n30 dX8_passes_9 ?_
  have hM1 := MR_ms (k := 30) (j := 26) (v := ((m.1 30 26) + 1)) hM rfl
  refine J_aload_n 0 rfl dX8_passes_12 ?_
  refine J_dup rfl dX8_passes_13 ?_
  refine gf_8_209 n30 dX8_passes_14 ?_
  refine J_eq (st' := [.long (ms m 30 26 ((m.1 30 26) + 1)).2, .ref (ka S 30 0)]) rfl rfl (by rw [hM1.2.2]) ?_
  refine J_aload_n 0 rfl dX8_passes_17 ?_
  refine J_bipush (v := 119) (by decide) dX8_passes_18 ?_
  refine cv_8_187 (cells' := 0) (slots' := 0) dX8_passes_20 (c_X8_many (m := (ms m 30 26 ((m.1 30 26) + 1))) hM1 hn h150) n30 ⟨by decide, by decide⟩ rfl rfl (by decide) (by decide) (Nat.le_of_ble_eq_true rfl) (fun _ _ r2 => ?_) (fun _ _ h => h.elim)
  obtain ⟨rfl, rfl⟩ := r2
  refine J_eq (st' := [.int (nI (mMany m 119)), .long (ms m 30 26 ((m.1 30 26) + 1)).2, .ref (ka S 30 0)]) rfl rfl rfl ?_
  refine J_i2l dX8_passes_23 ?_
  refine J_ladd dX8_passes_24 ?_
  refine pf_8_209 n30 dX8_passes_25 ?_
  have hM3 := MR_l hM1 (v := ((ms m 30 26 ((m.1 30 26) + 1)).2 + (nI (mMany m 119)).toInt64))
  refine J_iconst (v := 0) (by decide) dX8_passes_28 ?_
  refine J_istore_n (lv' := [(0, .ref (ka S 30 0)), (1, .int 0), (2, .int 0)]) (by decide) rfl dX8_passes_29 ?_
  have hT : MR (mTick m) cd (ku I 30 0 26 ((m.1 30 26) + 1)) (ku L 30 0 25 ((ms m 30 26 ((m.1 30 26) + 1)).2 + (nI (mMany m 119)).toInt64)) := hM3
  refine J_eq (lv' := [(0, .ref (ka S 30 0)), (1, .int (nI 0)), (2, .int (nI 0))]) rfl rfl rfl ?_
  refine ls_X8_passes (h := 0) (n := 0) hT hnt it (by omega) (by decide) (fun Ia La ha => ?_)
  refine ls_X8_passes (h := 1) ha (mN_min hnt) i1 (by omega) (by decide) (fun Ib Lb hb => ?_)
  refine ls_X8_passes (h := 2) hb (mN_min (n := _) (mN_min hnt)) i2 (by omega) (by decide) (fun Ic Lc hcc => ?_)
  refine J_iload_n 2 rfl dX8_passes_30 ?_
  refine J_iconst (v := 3) (by decide) dX8_passes_31 ?_
  refine J_icmp_ge 104 (by decide) dX8_passes_32 (fun c1 => ?_) (fun c1 => ?_)
  rotate_left
  · exfalso
    have Nc1 : ¬ (3 ≤ 3) := fun q => c1 ((nI_leI (a := 3) (b := 3) (by omega) (by omega)).mpr q)
    omega
  have Nc1 : 3 ≤ 3 := (nI_leI (a := 3) (b := 3) (by omega) (by omega)).mp c1
  refine J_iconst (v := 0) (by decide) dX8_passes_104 ?_
  refine J_istore_n (lv' := [(0, .ref (ka S 30 0)), (1, .int (nI (mMins (mTick m)).2)), (2, .int 0)]) (by decide) rfl dX8_passes_105 ?_
  refine J_eq (lv' := [(0, .ref (ka S 30 0)), (1, .int (nI (mMins (mTick m)).2)), (2, .int (nI 0))]) rfl rfl rfl ?_
  exact lw_X8_passes (m := (mMins (mTick m)).1) (mN_mins hnt) i3 (by omega) (mS (mMins (mTick m)).1) 0 Ic Lc (by omega) hcc

set_option maxRecDepth 20000 in
set_option maxHeartbeats 1000000 in
theorem l_X8_pass {cy : Nat → ClassId} {S : Nat → Nat → Nat} {R : kRf} {m : Mu} {B k : Nat} (hk : k ≤ 10) (hB : B + 90000 < 2 ^ 30) : ∀ (i j : Nat) (I : kI) (L : kL), j + i = k → mN (mPass j (m, 0)).1 → Inv (mPass j (m, 0)).1 (B + 8000 * j) → MR (mPass j (m, 0)).1 0 I L → J yX8_pass.cls yX8_pass.name cX8_pass 4 (some .int) 7 0 0 cy (fun r w' => r = some (.int (nI (mPass k (m, 0)).2)) ∧ MX cy S R (mPass k (m, 0)).1 0 w') kF 28 [(0, .ref (ka S 30 0)), (1, .int (nI k)), (2, .int (nI (mPass j (m, 0)).2)), (3, .int (nI j))] [] (wm cy S I L R) 0 0 := by
  intro i
  induction i with
  | zero =>
    intro j I L hj hn hI hM
    have hj : j = k := by omega
    subst hj
    refine J_iload_n 3 rfl dX8_pass_28 ?_
    refine J_iload_n 1 rfl dX8_pass_29 ?_
    refine J_icmp_ge 46 (by decide) dX8_pass_30 (fun c1 => ?_) (fun c1 => ?_)
    rotate_left
    · exfalso
      have Nc1 : ¬ (j ≤ j) := fun q => c1 ((nI_leI (a := j) (b := j) (by omega) (by omega)).mpr q)
      omega
    have Nc1 : j ≤ j := (nI_leI (a := j) (b := j) (by omega) (by omega)).mp c1
    refine J_iload_n 2 rfl dX8_pass_46 ?_
    exact J_ireturn rfl (by first | rfl | assumption | simp [kb_nar]) dX8_pass_47 (⟨rfl, _, _, rfl, hM⟩) (by omega) (by omega)
  | succ i ih =>
    intro j I L hj hn hI hM
    have e1 : (mPass (j + 1) (m, 0)).1 = mPass1 (mPass j (m, 0)).1 := by rw [mPass]
    have e2 : (mPass (j + 1) (m, 0)).2 = (mPass j (m, 0)).2 + (mMins (mTick (mPass j (m, 0)).1)).2 := by rw [mPass]
    have hI5 := pass_inv (mN_mins (mN_tick hn)).2 hI (by omega)
    have hn5 := mN_pass1 hn hI
    generalize hmm : mPass j (m, 0) = x at *
    refine J_iload_n 3 rfl dX8_pass_28 ?_
    refine J_iload_n 1 rfl dX8_pass_29 ?_
    refine J_icmp_ge 46 (by decide) dX8_pass_30 (fun c1 => ?_) (fun c1 => ?_)
    · exfalso
      have Nc1 : k ≤ j := (nI_leI (a := k) (b := j) (by omega) (by omega)).mp c1
      omega
    have Nc1 : ¬ (k ≤ j) := fun q => c1 ((nI_leI (a := k) (b := j) (by omega) (by omega)).mpr q)
    refine J_iload_n 2 rfl dX8_pass_33 ?_
    refine J_aload_n 0 rfl dX8_pass_34 ?_
    refine cv_8_216 (cells' := 0) (slots' := 0) dX8_pass_35 (c_X8_passes hM hn hI (by omega)) n30 ⟨by decide, by decide⟩ rfl rfl (by decide) (by decide) (Nat.le_of_ble_eq_true rfl) (fun _ _ r3 => ?_) (fun _ _ h => h.elim)
    obtain ⟨rfl, I2, L2, rfl, hM2⟩ := r3
    refine J_eq (st' := [.int (nI (mMins (mTick x.1)).2), .int (nI x.2)]) rfl rfl rfl ?_
    refine J_iadd dX8_pass_38 ?_
    refine J_topeq (nI (x.2 + (mMins (mTick x.1)).2)) (by exact nI_add x.2 ((mMins (mTick x.1)).2)) ?_
    refine J_istore_n (lv' := [(0, .ref (ka S 30 0)), (1, .int (nI k)), (2, .int (nI (x.2 + (mMins (mTick x.1)).2))), (3, .int (nI j))]) (by decide) rfl dX8_pass_39 ?_
    refine J_iinc (v := (nI (j + 1))) (lv' := [(0, .ref (ka S 30 0)), (1, .int (nI k)), (2, .int (nI (x.2 + (mMins (mTick x.1)).2))), (3, .int (nI (j + 1)))]) 3 rfl (by exact nI_add j 1) (by decide) rfl dX8_pass_40 ?_
    refine J_goto 28 (by decide) dX8_pass_43 ?_
    rw [← e2]
    exact ih (j + 1) _ _ (by omega) (by rw [e1]; exact hn5) (by rw [e1]; exact hI5.mono (by omega)) (by rw [e1]; exact hM2)

set_option maxRecDepth 20000 in
set_option maxHeartbeats 1000000 in
theorem c_X8_pass_s {cy : Nat → ClassId} {S : Nat → Nat → Nat} {I : kI} {L : kL} {R : kRf} {m : Mu} {cd : Int32} {k : Nat} (hM : MR m cd I L) (hn : mN m) {B : Nat} (hI : Inv m B) (hB : B + 90000 < 2 ^ 30) (h1 : 1 ≤ k) (hk : k ≤ 10) : Con yX8_pass cX8_pass 4 (some .int) 7 0 0 cy [.ref (ka S 30 0), .int (nI k)] (wm cy S I L R) (fun r w' => r = some (.int (nI (mPass k (m, 0)).2)) ∧ MX cy S R (mPass k (m, 0)).1 0 w') kF := by
  refine Con_of (by decide +kernel) (Nat.le_of_ble_eq_true rfl) ?_
  refine J_eq (lv' := [(0, .ref (ka S 30 0)), (1, .int (nI k))]) rfl rfl rfl ?_
  refine J_aload_n 0 rfl dX8_pass_0 ?_
  refine J_iload_n 1 rfl dX8_pass_1 ?_
  refine J_iconst (v := 1) (by decide) dX8_pass_2 ?_
  refine J_bipush (v := 10) (by decide) dX8_pass_3 ?_
  refine cv_8_91 (i := 0) (cells' := 0) (slots' := 0) dX8_pass_5 (c_X8_in) ⟨by decide, by decide⟩ rfl rfl (by decide) (by decide) (Nat.le_of_ble_eq_true rfl) (fun _ _ r1 => ?_) (fun _ _ h => h.elim)
  obtain ⟨rfl, rfl⟩ := r1
  refine J_eq (st' := [.int (kb (decide (1 ≤ (nI k)) && decide ((nI k) ≤ 10))), .ref (ka S 30 0)]) rfl rfl rfl ?_
  refine J_topeq 1 (by rw [in_t (a := 1) (b := 10) ⟨(nI_leI (a := 1) (by decide) (by omega)).mpr h1, (nI_leI (b := 10) (by omega) (by decide)).mpr hk⟩]; rfl) ?_
  refine J_if_eq 15 (by decide) dX8_pass_8 (fun c2 => ?_) (fun c2 => ?_)
  · exact absurd c2 (by decide)
  refine J_iconst (v := 0) (by decide) dX8_pass_11 ?_
  refine J_goto 16 (by decide) dX8_pass_12 ?_
  refine cv_8_113 (cells' := 0) (slots' := 0) dX8_pass_16 (c_X8_fails (x := 0) hM) n30 ⟨by decide, by decide⟩ rfl rfl (by decide) (by decide) (Nat.le_of_ble_eq_true rfl) (fun _ _ r4 => ?_) (fun _ _ h => h.elim)
  obtain ⟨rfl, I3, L3, rfl, hM3⟩ := r4
  refine J_eq (st' := [.int (kb (decide (0 < (0 : Int32))))]) rfl rfl rfl ?_
  refine J_topeq 0 (by decide) ?_
  refine J_if_eq 24 (by decide) dX8_pass_19 (fun c5 => ?_) (fun c5 => ?_)
  rotate_left
  · exact absurd (by decide) c5
  refine J_iconst (v := 0) (by decide) dX8_pass_24 ?_
  refine J_istore_n (lv' := [(0, .ref (ka S 30 0)), (1, .int (nI k)), (2, .int 0)]) (by decide) rfl dX8_pass_25 ?_
  refine J_iconst (v := 0) (by decide) dX8_pass_26 ?_
  refine J_istore_n (lv' := [(0, .ref (ka S 30 0)), (1, .int (nI k)), (2, .int 0), (3, .int 0)]) (by decide) rfl dX8_pass_27 ?_
  refine J_eq (lv' := [(0, .ref (ka S 30 0)), (1, .int (nI k)), (2, .int (nI 0)), (3, .int (nI 0))]) rfl rfl rfl ?_
  exact l_X8_pass (m := m) hk hB k 0 _ _ (by omega) hn hI hM3

set_option maxRecDepth 20000 in
set_option maxHeartbeats 1000000 in
theorem c_X8_pass_x {cy : Nat → ClassId} {S : Nat → Nat → Nat} {I : kI} {L : kL} {R : kRf} {m : Mu} {cd x : Int32} (hM : MR m cd I L) (hx : ¬ (1 ≤ x ∧ x ≤ 10)) : Con yX8_pass cX8_pass 4 (some .int) 7 0 0 cy [.ref (ka S 30 0), .int x] (wm cy S I L R) (fun r w' => r = some (.int 0) ∧ MX cy S R m 1 w') kF := by
  refine Con_of (by decide +kernel) (Nat.le_of_ble_eq_true rfl) ?_
  refine J_eq (lv' := [(0, .ref (ka S 30 0)), (1, .int x)]) rfl rfl rfl ?_
  refine J_aload_n 0 rfl dX8_pass_0 ?_
  refine J_iload_n 1 rfl dX8_pass_1 ?_
  refine J_iconst (v := 1) (by decide) dX8_pass_2 ?_
  refine J_bipush (v := 10) (by decide) dX8_pass_3 ?_
  refine cv_8_91 (i := 0) (cells' := 0) (slots' := 0) dX8_pass_5 (c_X8_in) ⟨by decide, by decide⟩ rfl rfl (by decide) (by decide) (Nat.le_of_ble_eq_true rfl) (fun _ _ r1 => ?_) (fun _ _ h => h.elim)
  obtain ⟨rfl, rfl⟩ := r1
  refine J_eq (st' := [.int (kb (decide (1 ≤ x) && decide (x ≤ 10))), .ref (ka S 30 0)]) rfl rfl rfl ?_
  refine J_topeq 0 (by rw [in_f hx]; rfl) ?_
  refine J_if_eq 15 (by decide) dX8_pass_8 (fun c2 => ?_) (fun c2 => ?_)
  rotate_left
  · exact absurd (by decide) c2
  refine J_iconst (v := 1) (by decide) dX8_pass_15 ?_
  refine cv_8_113 (cells' := 0) (slots' := 0) dX8_pass_16 (c_X8_fails (x := 1) hM) n30 ⟨by decide, by decide⟩ rfl rfl (by decide) (by decide) (Nat.le_of_ble_eq_true rfl) (fun _ _ r4 => ?_) (fun _ _ h => h.elim)
  obtain ⟨rfl, I3, L3, rfl, hM3⟩ := r4
  refine J_eq (st' := [.int (kb (decide (0 < (1 : Int32))))]) rfl rfl rfl ?_
  refine J_topeq 1 (by decide) ?_
  refine J_if_eq 24 (by decide) dX8_pass_19 (fun c5 => ?_) (fun c5 => ?_)
  · exact absurd c5 (by decide)
  refine J_iconst (v := 0) (by decide) dX8_pass_22 ?_
  exact J_ireturn rfl (by first | rfl | assumption | simp [kb_nar]) dX8_pass_23 (⟨rfl, _, _, rfl, hM3⟩) (by omega) (by omega)

