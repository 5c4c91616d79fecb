/-! the model: who speaks, who can begin -/

set_option maxRecDepth 20000 in
set_option maxHeartbeats 1000000 in
theorem c_X8_canBreak {cy : Nat → ClassId} {S : Nat → Nat → Nat} {I : kI} {L : kL} {R : kRf} {m : Mu} {cd : Int32} {a b : Nat} (hM : MR m cd I L) (ha : a < 150) (hb : b < 150) : Con yX8_canBreak cX8_canBreak 3 (some .boolean) 1 0 0 cy [.ref (ka S 30 0), .int (nI a), .int (nI b)] (wm cy S I L R) (kRet (some (.int (kb (mBreak m a b)))) (wm cy S I L R)) kF := by
  refine Con_of (by decide +kernel) (Nat.le_of_ble_eq_true rfl) ?_
  refine J_eq (lv' := [(0, .ref (ka S 30 0)), (1, .int (nI a)), (2, .int (nI b))]) rfl rfl rfl ?_
  refine J_aload_n 0 rfl dX8_canBreak_0 ?_
  refine gf_8_41 n30 dX8_canBreak_1 ?_
  refine J_iload_n 1 rfl dX8_canBreak_4 ?_
  refine J_cald a 1 n53 rfl rfl (vp_in_nI (by omega) (by decide)) (nI_toNat (by omega)) dX8_canBreak_5 ?_
  refine J_topeq (m.1 53 a) (hM.1 53 a rfl) ?_
  refine cv_8_145 (i := 0) (cells' := 0) (slots' := 0) dX8_canBreak_6 (c_X8_rank) ⟨by decide, by decide⟩ rfl rfl (by decide) (by decide) (Nat.le_of_ble_eq_true rfl) (fun _ _ r1 => ?_) (fun _ _ h => h.elim)
  obtain ⟨rfl, rfl⟩ := r1
  refine J_eq (st' := [.int (wghtF (m.1 53 a))]) rfl rfl rfl ?_
  refine J_topeq (mRank m a) rfl ?_
  refine J_iconst (v := 1) (by decide) dX8_canBreak_9 ?_
  refine J_icmp_le 38 (by decide) dX8_canBreak_10 (fun c2 => ?_) (fun c2 => ?_)
  · skip
    refine J_iconst (v := 0) (by decide) dX8_canBreak_38 ?_
    exact J_ireturn rfl (by first | rfl | assumption | simp [kb_nar]) dX8_canBreak_39 (⟨by unfold mBreak; first | (rw [decide_eq_true (by grind), decide_eq_true (by grind)]; rfl) | (rw [decide_eq_false (p := 1 < mRank m a) (by grind)]; rfl) | (rw [decide_eq_false (p := mRank m b < mRank m a) (by grind), Bool.and_false]; rfl), rfl⟩) (by omega) (by omega)
  · skip
    refine J_aload_n 0 rfl dX8_canBreak_13 ?_
    refine gf_8_41 n30 dX8_canBreak_14 ?_
    refine J_iload_n 1 rfl dX8_canBreak_17 ?_
    refine J_cald a 1 n53 rfl rfl (vp_in_nI (by omega) (by decide)) (nI_toNat (by omega)) dX8_canBreak_18 ?_
    refine J_topeq (m.1 53 a) (hM.1 53 a rfl) ?_
    refine cv_8_145 (i := 0) (cells' := 0) (slots' := 0) dX8_canBreak_19 (c_X8_rank) ⟨by decide, by decide⟩ rfl rfl (by decide) (by decide) (Nat.le_of_ble_eq_true rfl) (fun _ _ r3 => ?_) (fun _ _ h => h.elim)
    obtain ⟨rfl, rfl⟩ := r3
    refine J_eq (st' := [.int (wghtF (m.1 53 a))]) rfl rfl rfl ?_
    refine J_topeq (mRank m a) rfl ?_
    refine J_aload_n 0 rfl dX8_canBreak_22 ?_
    refine gf_8_41 n30 dX8_canBreak_23 ?_
    refine J_iload_n 2 rfl dX8_canBreak_26 ?_
    refine J_cald b 1 n53 rfl rfl (vp_in_nI (by omega) (by decide)) (nI_toNat (by omega)) dX8_canBreak_27 ?_
    refine J_topeq (m.1 53 b) (hM.1 53 b rfl) ?_
    refine cv_8_145 (i := 0) (cells' := 0) (slots' := 0) dX8_canBreak_28 (c_X8_rank) ⟨by decide, by decide⟩ rfl rfl (by decide) (by decide) (Nat.le_of_ble_eq_true rfl) (fun _ _ r4 => ?_) (fun _ _ h => h.elim)
    obtain ⟨rfl, rfl⟩ := r4
    refine J_eq (st' := [.int (wghtF (m.1 53 b)), .int (mRank m a)]) rfl rfl rfl ?_
    refine J_topeq (mRank m b) rfl ?_
    refine J_icmp_le 38 (by decide) dX8_canBreak_31 (fun c5 => ?_) (fun c5 => ?_)
    · skip
      refine J_iconst (v := 0) (by decide) dX8_canBreak_38 ?_
      exact J_ireturn rfl (by first | rfl | assumption | simp [kb_nar]) dX8_canBreak_39 (⟨by unfold mBreak; first | (rw [decide_eq_true (by grind), decide_eq_true (by grind)]; rfl) | (rw [decide_eq_false (p := 1 < mRank m a) (by grind)]; rfl) | (rw [decide_eq_false (p := mRank m b < mRank m a) (by grind), Bool.and_false]; rfl), rfl⟩) (by omega) (by omega)
    · skip
      refine J_iconst (v := 1) (by decide) dX8_canBreak_34 ?_
      refine J_goto 39 (by decide) dX8_canBreak_35 ?_
      exact J_ireturn rfl (by first | rfl | assumption | simp [kb_nar]) dX8_canBreak_39 (⟨by unfold mBreak; first | (rw [decide_eq_true (by grind), decide_eq_true (by grind)]; rfl) | (rw [decide_eq_false (p := 1 < mRank m a) (by grind)]; rfl) | (rw [decide_eq_false (p := mRank m b < mRank m a) (by grind), Bool.and_false]; rfl), rfl⟩) (by omega) (by omega)

set_option maxRecDepth 20000 in
set_option maxHeartbeats 1000000 in
theorem c_X8_firstChannel {cy : Nat → ClassId} {S : Nat → Nat → Nat} {I : kI} {L : kL} {R : kRf} {m : Mu} {cd : Int32} {a : Nat} (hM : MR m cd I L) (ha : a < 150) : Con yX8_firstChannel cX8_firstChannel 2 (some .int) 1 0 0 cy [.ref (ka S 30 0), .int (nI a)] (wm cy S I L R) (kRet (some (.int (nI (mFirst m a)))) (wm cy S I L R)) kF := by
  refine Con_of (by decide +kernel) (Nat.le_of_ble_eq_true rfl) ?_
  refine J_eq (lv' := [(0, .ref (ka S 30 0)), (1, .int (nI a))]) rfl rfl rfl ?_
  refine J_aload_n 0 rfl dX8_firstChannel_0 ?_
  refine gf_8_41 n30 dX8_firstChannel_1 ?_
  refine J_iload_n 1 rfl dX8_firstChannel_4 ?_
  refine J_cald a 1 n53 rfl rfl (vp_in_nI (by omega) (by decide)) (nI_toNat (by omega)) dX8_firstChannel_5 ?_
  refine J_topeq (m.1 53 a) (hM.1 53 a rfl) ?_
  refine cv_8_145 (i := 0) (cells' := 0) (slots' := 0) dX8_firstChannel_6 (c_X8_rank) ⟨by decide, by decide⟩ rfl rfl (by decide) (by decide) (Nat.le_of_ble_eq_true rfl) (fun _ _ r1 => ?_) (fun _ _ h => h.elim)
  obtain ⟨rfl, rfl⟩ := r1
  refine J_eq (st' := [.int (wghtF (m.1 53 a))]) rfl rfl rfl ?_
  refine J_topeq (mRank m a) rfl ?_
  refine J_iconst (v := 1) (by decide) dX8_firstChannel_9 ?_
  refine J_icmp_le 17 (by decide) dX8_firstChannel_10 (fun c2 => ?_) (fun c2 => ?_)
  · skip
    refine J_iconst (v := 1) (by decide) dX8_firstChannel_17 ?_
    exact J_ireturn rfl (by first | rfl | assumption | simp [kb_nar]) dX8_firstChannel_18 (⟨by unfold mFirst; first | (rw [if_pos (by grind)]; rfl) | (rw [if_neg (by grind)]; rfl), rfl⟩) (by omega) (by omega)
  · skip
    refine J_iconst (v := 0) (by decide) dX8_firstChannel_13 ?_
    refine J_goto 18 (by decide) dX8_firstChannel_14 ?_
    exact J_ireturn rfl (by first | rfl | assumption | simp [kb_nar]) dX8_firstChannel_18 (⟨by unfold mFirst; first | (rw [if_pos (by grind)]; rfl) | (rw [if_neg (by grind)]; rfl), rfl⟩) (by omega) (by omega)

set_option maxRecDepth 20000 in
set_option maxHeartbeats 1000000 in
theorem l_X8_speaker {cy : Nat → ClassId} {S : Nat → Nat → Nat} {I : kI} {L : kL} {R : kRf} {m : Mu} {cd : Int32} {h : Nat} (hM : MR m cd I L) (hn : mN m) (h150 : mC m ≤ 150)  : ∀ (j c : Nat), c + j = mC m → (∀ x, x < c → (fun c => mSpk m c && decide (m.1 56 c = nI h)) x = false) → J yX8_speaker.cls yX8_speaker.name cX8_speaker 3 (some .int) 0 0 0 cy (kRet (some (.int (oI (mOn m h)))) (wm cy S I L R)) kF 2 [(0, .ref (ka S 30 0)), (1, .int (nI h)), (2, .int (nI c))] [] (wm cy S I L R) 0 0 := by
  intro j
  induction j with
  | zero =>
    intro c hc hno
    have hc : c = mC m := by omega
    subst hc
    have hf : (mOn m h) = none := find_no hno
    refine J_iload_n 2 rfl dX8_speaker_2 ?_
    refine J_aload_n 0 rfl dX8_speaker_3 ?_
    refine gf_8_135 n30 dX8_speaker_4 ?_
    refine J_topeq (nI (mC m)) ((hM.1 30 10 rfl).trans (by exact hn.2)) ?_
    refine J_icmp_ge 39 (by decide) dX8_speaker_7 (fun c1 => ?_) (fun c1 => ?_)
    rotate_left
    · exfalso
      have Nc1 : ¬ ((mC m) ≤ (mC m)) := fun q => c1 ((nI_leI (a := (mC m)) (b := (mC m)) (by omega) (by omega)).mpr q)
      omega
    have Nc1 : (mC m) ≤ (mC m) := (nI_leI (a := (mC m)) (b := (mC m)) (by omega) (by omega)).mp c1
    refine J_iconst (v := (-1)) (by decide) dX8_speaker_39 ?_
    exact J_ireturn rfl (by first | rfl | assumption | simp [kb_nar]) dX8_speaker_40 (⟨by rw [hf]; rfl, rfl⟩) (by omega) (by omega)
  | succ j ih =>
    intro c hc hno
    refine J_iload_n 2 rfl dX8_speaker_2 ?_
    refine J_aload_n 0 rfl dX8_speaker_3 ?_
    refine gf_8_135 n30 dX8_speaker_4 ?_
    refine J_topeq (nI (mC m)) ((hM.1 30 10 rfl).trans (by exact hn.2)) ?_
    refine J_icmp_ge 39 (by decide) dX8_speaker_7 (fun c1 => ?_) (fun c1 => ?_)
    · exfalso
      have Nc1 : (mC m) ≤ c := (nI_leI (a := (mC m)) (b := c) (by omega) (by omega)).mp c1
      omega
    have Nc1 : ¬ ((mC m) ≤ c) := fun q => c1 ((nI_leI (a := (mC m)) (b := c) (by omega) (by omega)).mpr q)
    refine J_aload_n 0 rfl dX8_speaker_10 ?_
    refine gf_8_48 n30 dX8_speaker_11 ?_
    refine J_iload_n 2 rfl dX8_speaker_14 ?_
    refine J_cald c 1 n55 rfl rfl (vp_in_nI (by omega) (by decide)) (nI_toNat (by omega)) dX8_speaker_15 ?_
    refine J_topeq (m.1 55 c) (hM.1 55 c rfl) ?_
    refine J_bipush (v := 115) (by decide) dX8_speaker_16 ?_
    refine J_icmp_ne 33 (by decide) dX8_speaker_18 (fun c2 => ?_) (fun c2 => ?_)
    · skip
      refine J_iinc (v := (nI (c + 1))) (lv' := [(0, .ref (ka S 30 0)), (1, .int (nI h)), (2, .int (nI (c + 1)))]) 2 rfl (by exact nI_add c 1) (by decide) rfl dX8_speaker_33 ?_
      refine J_goto 2 (by decide) dX8_speaker_36 ?_
      have hp : (fun c => mSpk m c && decide (m.1 56 c = nI h)) c = false := by simp [mSpk, *]
      refine J_sub (lv' := [(0, .ref (ka S 30 0)), (1, .int (nI h)), (2, .int (nI (c + 1)))]) [0, 1, 2] rfl ?_
      refine ih (c + 1) (by omega) (fun x hx => ?_)
      by_cases e : x = c
      · subst e; exact hp
      · exact hno x (by omega)
    · skip
      refine J_aload_n 0 rfl dX8_speaker_21 ?_
      refine gf_8_51 n30 dX8_speaker_22 ?_
      refine J_iload_n 2 rfl dX8_speaker_25 ?_
      refine J_iald c 0 n56 rfl rfl (vp_in_nI (by omega) (by decide)) (nI_toNat (by omega)) dX8_speaker_26 ?_
      refine J_topeq (m.1 56 c) (hM.1 56 c rfl) ?_
      refine J_iload_n 1 rfl dX8_speaker_27 ?_
      refine J_icmp_ne 33 (by decide) dX8_speaker_28 (fun c4 => ?_) (fun c4 => ?_)
      · skip
        refine J_iinc (v := (nI (c + 1))) (lv' := [(0, .ref (ka S 30 0)), (1, .int (nI h)), (2, .int (nI (c + 1)))]) 2 rfl (by exact nI_add c 1) (by decide) rfl dX8_speaker_33 ?_
        refine J_goto 2 (by decide) dX8_speaker_36 ?_
        have hp : (fun c => mSpk m c && decide (m.1 56 c = nI h)) c = false := by simp [mSpk, *]
        refine J_sub (lv' := [(0, .ref (ka S 30 0)), (1, .int (nI h)), (2, .int (nI (c + 1)))]) [0, 1, 2] rfl ?_
        refine ih (c + 1) (by omega) (fun x hx => ?_)
        by_cases e : x = c
        · subst e; exact hp
        · exact hno x (by omega)
      · skip
        refine J_iload_n 2 rfl dX8_speaker_31 ?_
        exact J_ireturn rfl (by first | rfl | assumption | simp [kb_nar]) dX8_speaker_32 (⟨by rw [show (mOn m h) = some c from find_fst (p := (fun c => mSpk m c && decide (m.1 56 c = nI h))) (by omega) (by simp [mSpk, *]) hno]; rfl, rfl⟩) (by omega) (by omega)

set_option maxRecDepth 20000 in
set_option maxHeartbeats 1000000 in
theorem c_X8_speaker {cy : Nat → ClassId} {S : Nat → Nat → Nat} {I : kI} {L : kL} {R : kRf} {m : Mu} {cd : Int32} {h : Nat} (hM : MR m cd I L) (hn : mN m) (h150 : mC m ≤ 150)  : Con yX8_speaker cX8_speaker 3 (some .int) 0 0 0 cy [.ref (ka S 30 0), .int (nI h)] (wm cy S I L R) (kRet (some (.int (oI (mOn m h)))) (wm cy S I L R)) kF := by
  refine Con_of (by decide +kernel) (Nat.le_of_ble_eq_true rfl) ?_
  refine J_eq (lv' := [(0, .ref (ka S 30 0)), (1, .int (nI h))]) rfl rfl rfl ?_
  refine J_iconst (v := 0) (by decide) dX8_speaker_0 ?_
  refine J_istore_n (lv' := [(0, .ref (ka S 30 0)), (1, .int (nI h)), (2, .int 0)]) (by decide) rfl dX8_speaker_1 ?_
  refine J_eq (lv' := [(0, .ref (ka S 30 0)), (1, .int (nI h)), (2, .int (nI 0))]) rfl rfl rfl ?_
  exact l_X8_speaker hM hn h150 (mC m) 0 (by omega) (fun x hx => absurd hx (by omega))

set_option maxRecDepth 20000 in
set_option maxHeartbeats 1000000 in
theorem l_X8_busy {cy : Nat → ClassId} {S : Nat → Nat → Nat} {I : kI} {L : kL} {R : kRf} {m : Mu} {cd : Int32} {s : Nat} (hM : MR m cd I L) (hn : mN m) (h150 : mC m ≤ 150)  : ∀ (j c : Nat), c + j = mC m → (∀ x, x < c → (fun c => mSpk m c && decide ((m.1 57 c >>> (nI s &&& 31)) &&& 1 = 1)) x = false) → J yX8_busy.cls yX8_busy.name cX8_busy 3 (some .int) 0 0 0 cy (kRet (some (.int (oI (mHold m (nI s))))) (wm cy S I L R)) kF 2 [(0, .ref (ka S 30 0)), (1, .int (nI s)), (2, .int (nI c))] [] (wm cy S I L R) 0 0 := by
  intro j
  induction j with
  | zero =>
    intro c hc hno
    have hc : c = mC m := by omega
    subst hc
    have hf : (mHold m (nI s)) = none := find_no hno
    refine J_iload_n 2 rfl dX8_busy_2 ?_
    refine J_aload_n 0 rfl dX8_busy_3 ?_
    refine gf_8_135 n30 dX8_busy_4 ?_
    refine J_topeq (nI (mC m)) ((hM.1 30 10 rfl).trans (by exact hn.2)) ?_
    refine J_icmp_ge 43 (by decide) dX8_busy_7 (fun c1 => ?_) (fun c1 => ?_)
    rotate_left
    · exfalso
      have Nc1 : ¬ ((mC m) ≤ (mC m)) := fun q => c1 ((nI_leI (a := (mC m)) (b := (mC m)) (by omega) (by omega)).mpr q)
      omega
    have Nc1 : (mC m) ≤ (mC m) := (nI_leI (a := (mC m)) (b := (mC m)) (by omega) (by omega)).mp c1
    refine J_iconst (v := (-1)) (by decide) dX8_busy_43 ?_
    exact J_ireturn rfl (by first | rfl | assumption | simp [kb_nar]) dX8_busy_44 (⟨by rw [hf]; rfl, rfl⟩) (by omega) (by omega)
  | succ j ih =>
    intro c hc hno
    refine J_iload_n 2 rfl dX8_busy_2 ?_
    refine J_aload_n 0 rfl dX8_busy_3 ?_
    refine gf_8_135 n30 dX8_busy_4 ?_
    refine J_topeq (nI (mC m)) ((hM.1 30 10 rfl).trans (by exact hn.2)) ?_
    refine J_icmp_ge 43 (by decide) dX8_busy_7 (fun c1 => ?_) (fun c1 => ?_)
    · exfalso
      have Nc1 : (mC m) ≤ c := (nI_leI (a := (mC m)) (b := c) (by omega) (by omega)).mp c1
      omega
    have Nc1 : ¬ ((mC m) ≤ c) := fun q => c1 ((nI_leI (a := (mC m)) (b := c) (by omega) (by omega)).mpr q)
    refine J_aload_n 0 rfl dX8_busy_10 ?_
    refine gf_8_48 n30 dX8_busy_11 ?_
    refine J_iload_n 2 rfl dX8_busy_14 ?_
    refine J_cald c 1 n55 rfl rfl (vp_in_nI (by omega) (by decide)) (nI_toNat (by omega)) dX8_busy_15 ?_
    refine J_topeq (m.1 55 c) (hM.1 55 c rfl) ?_
    refine J_bipush (v := 115) (by decide) dX8_busy_16 ?_
    refine J_icmp_ne 37 (by decide) dX8_busy_18 (fun c2 => ?_) (fun c2 => ?_)
    · skip
      refine J_iinc (v := (nI (c + 1))) (lv' := [(0, .ref (ka S 30 0)), (1, .int (nI s)), (2, .int (nI (c + 1)))]) 2 rfl (by exact nI_add c 1) (by decide) rfl dX8_busy_37 ?_
      refine J_goto 2 (by decide) dX8_busy_40 ?_
      have hp : (fun c => mSpk m c && decide ((m.1 57 c >>> (nI s &&& 31)) &&& 1 = 1)) c = false := by simp [mSpk, *]
      refine J_sub (lv' := [(0, .ref (ka S 30 0)), (1, .int (nI s)), (2, .int (nI (c + 1)))]) [0, 1, 2] rfl ?_
      refine ih (c + 1) (by omega) (fun x hx => ?_)
      by_cases e : x = c
      · subst e; exact hp
      · exact hno x (by omega)
    · skip
      refine J_aload_n 0 rfl dX8_busy_21 ?_
      refine gf_8_54 n30 dX8_busy_22 ?_
      refine J_iload_n 2 rfl dX8_busy_25 ?_
      refine J_iald c 0 n57 rfl rfl (vp_in_nI (by omega) (by decide)) (nI_toNat (by omega)) dX8_busy_26 ?_
      refine J_topeq (m.1 57 c) (hM.1 57 c rfl) ?_
      refine J_iload_n 1 rfl dX8_busy_27 ?_
      refine J_ishr dX8_busy_28 ?_
      refine J_iconst (v := 1) (by decide) dX8_busy_29 ?_
      refine J_iand dX8_busy_30 ?_
      refine J_iconst (v := 1) (by decide) dX8_busy_31 ?_
      refine J_icmp_ne 37 (by decide) dX8_busy_32 (fun c4 => ?_) (fun c4 => ?_)
      · skip
        refine J_iinc (v := (nI (c + 1))) (lv' := [(0, .ref (ka S 30 0)), (1, .int (nI s)), (2, .int (nI (c + 1)))]) 2 rfl (by exact nI_add c 1) (by decide) rfl dX8_busy_37 ?_
        refine J_goto 2 (by decide) dX8_busy_40 ?_
        have hp : (fun c => mSpk m c && decide ((m.1 57 c >>> (nI s &&& 31)) &&& 1 = 1)) c = false := by simp [mSpk, *]
        refine J_sub (lv' := [(0, .ref (ka S 30 0)), (1, .int (nI s)), (2, .int (nI (c + 1)))]) [0, 1, 2] rfl ?_
        refine ih (c + 1) (by omega) (fun x hx => ?_)
        by_cases e : x = c
        · subst e; exact hp
        · exact hno x (by omega)
      · skip
        refine J_iload_n 2 rfl dX8_busy_35 ?_
        exact J_ireturn rfl (by first | rfl | assumption | simp [kb_nar]) dX8_busy_36 (⟨by rw [show (mHold m (nI s)) = some c from find_fst (p := (fun c => mSpk m c && decide ((m.1 57 c >>> (nI s &&& 31)) &&& 1 = 1))) (by omega) (by simp [mSpk, *]) hno]; rfl, rfl⟩) (by omega) (by omega)

set_option maxRecDepth 20000 in
set_option maxHeartbeats 1000000 in
theorem c_X8_busy {cy : Nat → ClassId} {S : Nat → Nat → Nat} {I : kI} {L : kL} {R : kRf} {m : Mu} {cd : Int32} {s : Nat} (hM : MR m cd I L) (hn : mN m) (h150 : mC m ≤ 150)  : Con yX8_busy cX8_busy 3 (some .int) 0 0 0 cy [.ref (ka S 30 0), .int (nI s)] (wm cy S I L R) (kRet (some (.int (oI (mHold m (nI s))))) (wm cy S I L R)) kF := by
  refine Con_of (by decide +kernel) (Nat.le_of_ble_eq_true rfl) ?_
  refine J_eq (lv' := [(0, .ref (ka S 30 0)), (1, .int (nI s))]) rfl rfl rfl ?_
  refine J_iconst (v := 0) (by decide) dX8_busy_0 ?_
  refine J_istore_n (lv' := [(0, .ref (ka S 30 0)), (1, .int (nI s)), (2, .int 0)]) (by decide) rfl dX8_busy_1 ?_
  refine J_eq (lv' := [(0, .ref (ka S 30 0)), (1, .int (nI s)), (2, .int (nI 0))]) rfl rfl rfl ?_
  exact l_X8_busy hM hn h150 (mC m) 0 (by omega) (fun x hx => absurd hx (by omega))

set_option maxRecDepth 20000 in
set_option maxHeartbeats 1000000 in
theorem l_X8_many {cy : Nat → ClassId} {S : Nat → Nat → Nat} {I : kI} {L : kL} {R : kRf} {m : Mu} {cd k : Int32} (hM : MR m cd I L) (hn : mN m) (h150 : mC m ≤ 150) : ∀ (j c : Nat), c + j = mC m → J yX8_many.cls yX8_many.name cX8_many 4 (some .int) 0 0 0 cy (kRet (some (.int (nI (mMany m k)))) (wm cy S I L R)) kF 4 [(0, .ref (ka S 30 0)), (1, .int k), (2, .int (nI ((List.range c).countP (fun c => decide (m.1 55 c = k))))), (3, .int (nI c))] [] (wm cy S I L R) 0 0 := by
  intro j
  induction j with
  | zero =>
    intro c hc
    have hc : c = mC m := by omega
    subst hc
    refine J_iload_n 3 rfl dX8_many_4 ?_
    refine J_aload_n 0 rfl dX8_many_5 ?_
    refine gf_8_135 n30 dX8_many_6 ?_
    refine J_topeq (nI (mC m)) ((hM.1 30 10 rfl).trans (by exact hn.2)) ?_
    refine J_icmp_ge 36 (by decide) dX8_many_9 (fun c1 => ?_) (fun c1 => ?_)
    rotate_left
    · exfalso
      have Nc1 : ¬ ((mC m) ≤ (mC m)) := fun q => c1 ((nI_leI (a := (mC m)) (b := (mC m)) (by omega) (by omega)).mpr q)
      omega
    have Nc1 : (mC m) ≤ (mC m) := (nI_leI (a := (mC m)) (b := (mC m)) (by omega) (by omega)).mp c1
    refine J_iload_n 2 rfl dX8_many_36 ?_
    exact J_ireturn rfl (by first | rfl | assumption | simp [kb_nar]) dX8_many_37 (⟨rfl, rfl⟩) (by omega) (by omega)
  | succ j ih =>
    intro c hc
    have hs := cp_s (fun c => decide (m.1 55 c = k)) c
    refine J_iload_n 3 rfl dX8_many_4 ?_
    refine J_aload_n 0 rfl dX8_many_5 ?_
    refine gf_8_135 n30 dX8_many_6 ?_
    refine J_topeq (nI (mC m)) ((hM.1 30 10 rfl).trans (by exact hn.2)) ?_
    refine J_icmp_ge 36 (by decide) dX8_many_9 (fun c1 => ?_) (fun c1 => ?_)
    · exfalso
      have Nc1 : (mC m) ≤ c := (nI_leI (a := (mC m)) (b := c) (by omega) (by omega)).mp c1
      omega
    have Nc1 : ¬ ((mC m) ≤ c) := fun q => c1 ((nI_leI (a := (mC m)) (b := c) (by omega) (by omega)).mpr q)
    refine J_iload_n 2 rfl dX8_many_12 ?_
    refine J_aload_n 0 rfl dX8_many_13 ?_
    refine gf_8_48 n30 dX8_many_14 ?_
    refine J_iload_n 3 rfl dX8_many_17 ?_
    refine J_cald c 1 n55 rfl rfl (vp_in_nI (by omega) (by decide)) (nI_toNat (by omega)) dX8_many_18 ?_
    refine J_topeq (m.1 55 c) (hM.1 55 c rfl) ?_
    refine J_iload_n 1 rfl dX8_many_19 ?_
    refine J_icmp_ne 27 (by decide) dX8_many_20 (fun c2 => ?_) (fun c2 => ?_)
    · skip
      refine J_iconst (v := 0) (by decide) dX8_many_27 ?_
      refine J_iadd dX8_many_28 ?_
      refine J_topeq (nI ((List.range c).countP (fun c => decide (m.1 55 c = k)) + 0)) (by exact nI_add ((List.range c).countP (fun c => decide (m.1 55 c = k))) 0) ?_
      refine J_istore_n (lv' := [(0, .ref (ka S 30 0)), (1, .int k), (2, .int (nI ((List.range c).countP (fun c => decide (m.1 55 c = k)) + 0))), (3, .int (nI c))]) (by decide) rfl dX8_many_29 ?_
      refine J_iinc (v := (nI (c + 1))) (lv' := [(0, .ref (ka S 30 0)), (1, .int k), (2, .int (nI ((List.range c).countP (fun c => decide (m.1 55 c = k)) + 0))), (3, .int (nI (c + 1)))]) 3 rfl (by exact nI_add c 1) (by decide) rfl dX8_many_30 ?_
      refine J_goto 4 (by decide) dX8_many_33 ?_
      refine J_eq (lv' := [(0, .ref (ka S 30 0)), (1, .int k), (2, .int (nI ((List.range (c + 1)).countP (fun c => decide (m.1 55 c = k))))), (3, .int (nI (c + 1)))]) rfl (by rw [hs]; simp [*]) rfl ?_
      exact ih (c + 1) (by omega)
    · skip
      refine J_iconst (v := 1) (by decide) dX8_many_23 ?_
      refine J_goto 28 (by decide) dX8_many_24 ?_
      refine J_iadd dX8_many_28 ?_
      refine J_topeq (nI ((List.range c).countP (fun c => decide (m.1 55 c = k)) + 1)) (by exact nI_add ((List.range c).countP (fun c => decide (m.1 55 c = k))) 1) ?_
      refine J_istore_n (lv' := [(0, .ref (ka S 30 0)), (1, .int k), (2, .int (nI ((List.range c).countP (fun c => decide (m.1 55 c = k)) + 1))), (3, .int (nI c))]) (by decide) rfl dX8_many_29 ?_
      refine J_iinc (v := (nI (c + 1))) (lv' := [(0, .ref (ka S 30 0)), (1, .int k), (2, .int (nI ((List.range c).countP (fun c => decide (m.1 55 c = k)) + 1))), (3, .int (nI (c + 1)))]) 3 rfl (by exact nI_add c 1) (by decide) rfl dX8_many_30 ?_
      refine J_goto 4 (by decide) dX8_many_33 ?_
      refine J_eq (lv' := [(0, .ref (ka S 30 0)), (1, .int k), (2, .int (nI ((List.range (c + 1)).countP (fun c => decide (m.1 55 c = k))))), (3, .int (nI (c + 1)))]) rfl (by rw [hs]; simp [*]) rfl ?_
      exact ih (c + 1) (by omega)

set_option maxRecDepth 20000 in
set_option maxHeartbeats 1000000 in
theorem c_X8_many {cy : Nat → ClassId} {S : Nat → Nat → Nat} {I : kI} {L : kL} {R : kRf} {m : Mu} {cd k : Int32} (hM : MR m cd I L) (hn : mN m) (h150 : mC m ≤ 150) : Con yX8_many cX8_many 4 (some .int) 0 0 0 cy [.ref (ka S 30 0), .int k] (wm cy S I L R) (kRet (some (.int (nI (mMany m k)))) (wm cy S I L R)) kF := by
  refine Con_of (by decide +kernel) (Nat.le_of_ble_eq_true rfl) ?_
  refine J_eq (lv' := [(0, .ref (ka S 30 0)), (1, .int k)]) rfl rfl rfl ?_
  refine J_iconst (v := 0) (by decide) dX8_many_0 ?_
  refine J_istore_n (lv' := [(0, .ref (ka S 30 0)), (1, .int k), (2, .int 0)]) (by decide) rfl dX8_many_1 ?_
  refine J_iconst (v := 0) (by decide) dX8_many_2 ?_
  refine J_istore_n (lv' := [(0, .ref (ka S 30 0)), (1, .int k), (2, .int 0), (3, .int 0)]) (by decide) rfl dX8_many_3 ?_
  refine J_eq (lv' := [(0, .ref (ka S 30 0)), (1, .int k), (2, .int (nI ((List.range 0).countP (fun c => decide (m.1 55 c = k))))), (3, .int (nI 0))]) rfl rfl rfl ?_
  exact l_X8_many hM hn h150 (mC m) 0 (by omega)

set_option maxRecDepth 20000 in
set_option maxHeartbeats 1000000 in
theorem c_X8_isFull {cy : Nat → ClassId} {S : Nat → Nat → Nat} {I : kI} {L : kL} {R : kRf} {m : Mu} {cd : Int32}  (hM : MR m cd I L)(hn : mN m)(h150 : mC m ≤ 150) : Con yX8_isFull cX8_isFull 1 (some .boolean) 1 0 0 cy [.ref (ka S 30 0)] (wm cy S I L R) (kRet (some (.int (kb (mFull m)))) (wm cy S I L R)) kF := by
  have hm1 : mMany m 119 ≤ 150 := Nat.le_trans List.countP_le_length (by rw [List.length_range]; exact h150)
  have hm2 : mMany m 115 ≤ 150 := Nat.le_trans List.countP_le_length (by rw [List.length_range]; exact h150)
  refine Con_of (by decide +kernel) (Nat.le_of_ble_eq_true rfl) ?_
  refine J_eq (lv' := [(0, .ref (ka S 30 0))]) rfl rfl rfl ?_
  refine J_aload_n 0 rfl dX8_isFull_0 ?_
  refine gf_8_135 n30 dX8_isFull_1 ?_
  refine J_topeq (nI (mC m)) ((hM.1 30 10 rfl).trans (by exact hn.2)) ?_
  refine J_sipush (v := 150) (by decide) dX8_isFull_4 ?_
  refine J_icmp_eq 28 (by decide) dX8_isFull_7 (fun c1 => ?_) (fun c1 => ?_)
  · have Nc1 : (mC m) = 150 := (nI_eqL (a := (mC m)) (b := 150) (by omega) (by omega)).mp c1
    refine J_iconst (v := 1) (by decide) dX8_isFull_28 ?_
    refine J_goto 33 (by decide) dX8_isFull_29 ?_
    exact J_ireturn rfl (by first | rfl | assumption | simp [kb_nar]) dX8_isFull_33 (⟨by unfold mFull; first | (rw [decide_eq_true (p := mC m = 150) (by omega)]; rfl) | (rw [decide_eq_false (p := mC m = 150) (by omega), decide_eq_true (p := mMany m 119 + mMany m 115 = 24) (by omega)]; rfl) | (rw [decide_eq_false (p := mC m = 150) (by omega), decide_eq_false (p := mMany m 119 + mMany m 115 = 24) (by omega)]; rfl), rfl⟩) (by omega) (by omega)
  · have Nc1 : ¬ ((mC m) = 150) := fun q => c1 ((nI_eqL (a := (mC m)) (b := 150) (by omega) (by omega)).mpr q)
    refine J_aload_n 0 rfl dX8_isFull_10 ?_
    refine J_bipush (v := 119) (by decide) dX8_isFull_11 ?_
    refine cv_8_187 (cells' := 0) (slots' := 0) dX8_isFull_13 (c_X8_many hM hn h150) n30 ⟨by decide, by decide⟩ rfl rfl (by decide) (by decide) (Nat.le_of_ble_eq_true rfl) (fun _ _ r2 => ?_) (fun _ _ h => h.elim)
    obtain ⟨rfl, rfl⟩ := r2
    refine J_eq (st' := [.int (nI (mMany m 119))]) rfl rfl rfl ?_
    refine J_aload_n 0 rfl dX8_isFull_16 ?_
    refine J_bipush (v := 115) (by decide) dX8_isFull_17 ?_
    refine cv_8_187 (cells' := 0) (slots' := 0) dX8_isFull_19 (c_X8_many hM hn h150) n30 ⟨by decide, by decide⟩ rfl rfl (by decide) (by decide) (Nat.le_of_ble_eq_true rfl) (fun _ _ r3 => ?_) (fun _ _ h => h.elim)
    obtain ⟨rfl, rfl⟩ := r3
    refine J_eq (st' := [.int (nI (mMany m 115)), .int (nI (mMany m 119))]) rfl rfl rfl ?_
    refine J_iadd dX8_isFull_22 ?_
    refine J_topeq (nI (mMany m 119 + mMany m 115)) (by exact nI_add (mMany m 119) (mMany m 115)) ?_
    refine J_bipush (v := 24) (by decide) dX8_isFull_23 ?_
    refine J_icmp_ne 32 (by decide) dX8_isFull_25 (fun c4 => ?_) (fun c4 => ?_)
    · have Nc4 : ¬ ((mMany m 119 + mMany m 115) = 24) := fun q => c4 ((nI_eqL (a := (mMany m 119 + mMany m 115)) (b := 24) (by omega) (by omega)).mpr q)
      refine J_iconst (v := 0) (by decide) dX8_isFull_32 ?_
      exact J_ireturn rfl (by first | rfl | assumption | simp [kb_nar]) dX8_isFull_33 (⟨by unfold mFull; first | (rw [decide_eq_true (p := mC m = 150) (by omega)]; rfl) | (rw [decide_eq_false (p := mC m = 150) (by omega), decide_eq_true (p := mMany m 119 + mMany m 115 = 24) (by omega)]; rfl) | (rw [decide_eq_false (p := mC m = 150) (by omega), decide_eq_false (p := mMany m 119 + mMany m 115 = 24) (by omega)]; rfl), rfl⟩) (by omega) (by omega)
    · have Nc4 : (mMany m 119 + mMany m 115) = 24 := (nI_eqL (a := (mMany m 119 + mMany m 115)) (b := 24) (by omega) (by omega)).mp c4
      refine J_iconst (v := 1) (by decide) dX8_isFull_28 ?_
      refine J_goto 33 (by decide) dX8_isFull_29 ?_
      exact J_ireturn rfl (by first | rfl | assumption | simp [kb_nar]) dX8_isFull_33 (⟨by unfold mFull; first | (rw [decide_eq_true (p := mC m = 150) (by omega)]; rfl) | (rw [decide_eq_false (p := mC m = 150) (by omega), decide_eq_true (p := mMany m 119 + mMany m 115 = 24) (by omega)]; rfl) | (rw [decide_eq_false (p := mC m = 150) (by omega), decide_eq_false (p := mMany m 119 + mMany m 115 = 24) (by omega)]; rfl), rfl⟩) (by omega) (by omega)

set_option maxRecDepth 20000 in
set_option maxHeartbeats 1000000 in
theorem c_X8_interrupts {cy : Nat → ClassId} {S : Nat → Nat → Nat} {I : kI} {L : kL} {R : kRf} {m : Mu} {cd : Int32} {c : Nat} (hM : MR m cd I L) (hc : c < 150) (hg0 : 0 ≤ m.1 30 27) : Con yX8_interrupts cX8_interrupts 2 none 1 0 0 cy [.ref (ka S 30 0), .int (nI c)] (wm cy S I L R) (fun r w' => r = none ∧ MX cy S R (mInt m c) cd w') kF := by
  refine Con_of (by decide +kernel) (Nat.le_of_ble_eq_true rfl) ?_
  refine J_eq (lv' := [(0, .ref (ka S 30 0)), (1, .int (nI c))]) rfl rfl rfl ?_
  refine J_aload_n 0 rfl dX8_interrupts_0 ?_
  refine gf_8_48 n30 dX8_interrupts_1 ?_
  refine J_iload_n 1 rfl dX8_interrupts_4 ?_
  refine J_bipush (v := 119) (by decide) dX8_interrupts_5 ?_
  refine J_cast (I' := ku I 55 0 c 119) (L' := L) (R' := R) c 1 n55 rfl rfl (vp_in_nI (by omega) (by decide)) (nI_toNat (by omega)) (by rw [ku_own]; rfl) (fun k' i' h => ⟨ku_row _ _ h, rfl, rfl⟩) dX8_interrupts_7 ?_
  have hM1 := MR_ms (k := 55) (j := c) (v := 119) hM rfl
  refine J_aload_n 0 rfl dX8_interrupts_8 ?_
  refine gf_8_60 n30 dX8_interrupts_9 ?_
  refine J_iload_n 1 rfl dX8_interrupts_12 ?_
  refine J_dup2 rfl rfl dX8_interrupts_13 ?_
  refine J_iald c 0 n59 rfl rfl (vp_in_nI (by omega) (by decide)) (nI_toNat (by omega)) dX8_interrupts_14 ?_
  refine J_topeq (m.1 59 c) ((hM1.1 59 c rfl).trans (by rfl)) ?_
  refine J_iconst (v := 1) (by decide) dX8_interrupts_15 ?_
  refine J_iadd dX8_interrupts_16 ?_
  refine J_iast (I' := ku (ku I 55 0 c 119) 59 0 c ((m.1 59 c) + 1)) (L' := L) (R' := R) c 0 n59 rfl rfl (vp_in_nI (by omega) (by decide)) (nI_toNat (by omega)) (by rw [ku_own]; rfl) (fun k' i' h => ⟨ku_row _ _ h, rfl, rfl⟩) dX8_interrupts_17 ?_
  have hM2 := MR_ms (k := 59) (j := c) (v := ((m.1 59 c) + 1)) hM1 rfl
  refine J_aload_n 0 rfl dX8_interrupts_18 ?_
  refine J_bipush (v := 105) (by decide) dX8_interrupts_19 ?_
  refine J_iload_n 1 rfl dX8_interrupts_21 ?_
  refine cv_8_162 (cells' := 0) (slots' := 0) dX8_interrupts_22 (c_X8_logs hM2 hg0 (by decide)) n30 ⟨by decide, by decide⟩ rfl rfl (by decide) (by decide) (Nat.le_of_ble_eq_true rfl) (fun _ _ r4 => ?_) (fun _ _ h => h.elim)
  obtain ⟨rfl, I3, L3, rfl, hM3⟩ := r4
  refine J_eq (st' := []) rfl rfl rfl ?_
  exact J_return rfl dX8_interrupts_25 (⟨rfl, _, _, rfl, hM3⟩) (by omega) (by omega)

set_option maxRecDepth 20000 in
set_option maxHeartbeats 1000000 in
theorem c_X8_freeChannel {cy : Nat → ClassId} {S : Nat → Nat → Nat} {I : kI} {L : kL} {R : kRf} {m : Mu} {cd : Int32} {c : Nat} (hM : MR m cd I L) (hn : mN m) (h150 : mC m ≤ 150) (hc : c < 150) : Con yX8_freeChannel cX8_freeChannel 3 (some .int) 2 0 0 cy [.ref (ka S 30 0), .int (nI c)] (wm cy S I L R) (kRet (some (.int (if mFree m c = 3 then -1 else nI (mFree m c)))) (wm cy S I L R)) kF := by
  rcases mFirst_01 (m := m) (c := c) with hf | hf
  · skip
    rcases opt_split (mOn m 0) with e0 | ⟨o0, e0⟩
    · skip
      refine Con_of (by decide +kernel) (Nat.le_of_ble_eq_true rfl) ?_
      refine J_eq (lv' := [(0, .ref (ka S 30 0)), (1, .int (nI c))]) rfl rfl rfl ?_
      refine J_aload_n 0 rfl dX8_freeChannel_0 ?_
      refine J_iload_n 1 rfl dX8_freeChannel_1 ?_
      refine cv_8_159 (cells' := 0) (slots' := 0) dX8_freeChannel_2 (c_X8_firstChannel hM (by omega)) n30 ⟨by decide, by decide⟩ rfl rfl (by decide) (by decide) (Nat.le_of_ble_eq_true rfl) (fun _ _ r1 => ?_) (fun _ _ h => h.elim)
      obtain ⟨rfl, rfl⟩ := r1
      refine J_eq (st' := [.int (nI (mFirst m c))]) rfl rfl rfl ?_
      refine J_topeq 0 (by rw [hf]; rfl) ?_
      refine J_istore_n (lv' := [(0, .ref (ka S 30 0)), (1, .int (nI c)), (2, .int 0)]) (by decide) rfl dX8_freeChannel_5 ?_
      refine J_iload_n 2 rfl dX8_freeChannel_6 ?_
      refine J_iconst (v := 3) (by decide) dX8_freeChannel_7 ?_
      refine J_icmp_ge 27 (by decide) dX8_freeChannel_8 (fun c2 => ?_) (fun c2 => ?_)
      · exact absurd c2 (by decide)
      refine J_aload_n 0 rfl dX8_freeChannel_11 ?_
      refine J_iload_n 2 rfl dX8_freeChannel_12 ?_
      refine J_topeq (nI 0) rfl ?_
      refine cv_8_153 (cells' := 0) (slots' := 0) dX8_freeChannel_13 (c_X8_speaker (h := 0) hM hn h150) n30 ⟨by decide, by decide⟩ rfl rfl (by decide) (by decide) (Nat.le_of_ble_eq_true rfl) (fun _ _ r3 => ?_) (fun _ _ h => h.elim)
      obtain ⟨rfl, rfl⟩ := r3
      refine J_eq (st' := [.int (oI (mOn m 0))]) rfl rfl rfl ?_
      refine J_topeq (-1) (by rw [e0]; rfl) ?_
      refine J_if_ge 21 (by decide) dX8_freeChannel_16 (fun c4 => ?_) (fun c4 => ?_)
      · exact absurd c4 (by decide)
      refine J_iload_n 2 rfl dX8_freeChannel_19 ?_
      exact J_ireturn rfl (by first | rfl | assumption | simp [kb_nar]) dX8_freeChannel_20 (⟨by simp [mFree, hf, *]; rfl, rfl⟩) (by omega) (by omega)
    · have b0 : o0 < 150 := by have := (mOn_some e0).1; omega
      rcases opt_split (mOn m 1) with e1 | ⟨o1, e1⟩
      · skip
        refine Con_of (by decide +kernel) (Nat.le_of_ble_eq_true rfl) ?_
        refine J_eq (lv' := [(0, .ref (ka S 30 0)), (1, .int (nI c))]) rfl rfl rfl ?_
        refine J_aload_n 0 rfl dX8_freeChannel_0 ?_
        refine J_iload_n 1 rfl dX8_freeChannel_1 ?_
        refine cv_8_159 (cells' := 0) (slots' := 0) dX8_freeChannel_2 (c_X8_firstChannel hM (by omega)) n30 ⟨by decide, by decide⟩ rfl rfl (by decide) (by decide) (Nat.le_of_ble_eq_true rfl) (fun _ _ r1 => ?_) (fun _ _ h => h.elim)
        obtain ⟨rfl, rfl⟩ := r1
        refine J_eq (st' := [.int (nI (mFirst m c))]) rfl rfl rfl ?_
        refine J_topeq 0 (by rw [hf]; rfl) ?_
        refine J_istore_n (lv' := [(0, .ref (ka S 30 0)), (1, .int (nI c)), (2, .int 0)]) (by decide) rfl dX8_freeChannel_5 ?_
        refine J_iload_n 2 rfl dX8_freeChannel_6 ?_
        refine J_iconst (v := 3) (by decide) dX8_freeChannel_7 ?_
        refine J_icmp_ge 27 (by decide) dX8_freeChannel_8 (fun c2 => ?_) (fun c2 => ?_)
        · exact absurd c2 (by decide)
        refine J_aload_n 0 rfl dX8_freeChannel_11 ?_
        refine J_iload_n 2 rfl dX8_freeChannel_12 ?_
        refine J_topeq (nI 0) rfl ?_
        refine cv_8_153 (cells' := 0) (slots' := 0) dX8_freeChannel_13 (c_X8_speaker (h := 0) hM hn h150) n30 ⟨by decide, by decide⟩ rfl rfl (by decide) (by decide) (Nat.le_of_ble_eq_true rfl) (fun _ _ r3 => ?_) (fun _ _ h => h.elim)
        obtain ⟨rfl, rfl⟩ := r3
        refine J_eq (st' := [.int (oI (mOn m 0))]) rfl rfl rfl ?_
        refine J_topeq (nI o0) (by rw [e0]; rfl) ?_
        refine J_if_ge 21 (by decide) dX8_freeChannel_16 (fun c4 => ?_) (fun c4 => ?_)
        rotate_left
        · exfalso
          have Nc4 : ¬ (0 ≤ o0) := fun q => c4 ((nI_leI (a := 0) (b := o0) (by omega) (by omega)).mpr q)
          omega
        have Nc4 : 0 ≤ o0 := (nI_leI (a := 0) (b := o0) (by omega) (by omega)).mp c4
        refine J_iinc (v := 1) (lv' := [(0, .ref (ka S 30 0)), (1, .int (nI c)), (2, .int 1)]) 2 rfl (by decide) (by decide) rfl dX8_freeChannel_21 ?_
        refine J_goto 6 (by decide) dX8_freeChannel_24 ?_
        refine J_iload_n 2 rfl dX8_freeChannel_6 ?_
        refine J_iconst (v := 3) (by decide) dX8_freeChannel_7 ?_
        refine J_icmp_ge 27 (by decide) dX8_freeChannel_8 (fun c6 => ?_) (fun c6 => ?_)
        · exact absurd c6 (by decide)
        refine J_aload_n 0 rfl dX8_freeChannel_11 ?_
        refine J_iload_n 2 rfl dX8_freeChannel_12 ?_
        refine J_topeq (nI 1) rfl ?_
        refine cv_8_153 (cells' := 0) (slots' := 0) dX8_freeChannel_13 (c_X8_speaker (h := 1) hM hn h150) n30 ⟨by decide, by decide⟩ rfl rfl (by decide) (by decide) (Nat.le_of_ble_eq_true rfl) (fun _ _ r7 => ?_) (fun _ _ h => h.elim)
        obtain ⟨rfl, rfl⟩ := r7
        refine J_eq (st' := [.int (oI (mOn m 1))]) rfl rfl rfl ?_
        refine J_topeq (-1) (by rw [e1]; rfl) ?_
        refine J_if_ge 21 (by decide) dX8_freeChannel_16 (fun c8 => ?_) (fun c8 => ?_)
        · exact absurd c8 (by decide)
        refine J_iload_n 2 rfl dX8_freeChannel_19 ?_
        exact J_ireturn rfl (by first | rfl | assumption | simp [kb_nar]) dX8_freeChannel_20 (⟨by simp [mFree, hf, *]; rfl, rfl⟩) (by omega) (by omega)
      · have b1 : o1 < 150 := by have := (mOn_some e1).1; omega
        rcases opt_split (mOn m 2) with e2 | ⟨o2, e2⟩
        · skip
          refine Con_of (by decide +kernel) (Nat.le_of_ble_eq_true rfl) ?_
          refine J_eq (lv' := [(0, .ref (ka S 30 0)), (1, .int (nI c))]) rfl rfl rfl ?_
          refine J_aload_n 0 rfl dX8_freeChannel_0 ?_
          refine J_iload_n 1 rfl dX8_freeChannel_1 ?_
          refine cv_8_159 (cells' := 0) (slots' := 0) dX8_freeChannel_2 (c_X8_firstChannel hM (by omega)) n30 ⟨by decide, by decide⟩ rfl rfl (by decide) (by decide) (Nat.le_of_ble_eq_true rfl) (fun _ _ r1 => ?_) (fun _ _ h => h.elim)
          obtain ⟨rfl, rfl⟩ := r1
          refine J_eq (st' := [.int (nI (mFirst m c))]) rfl rfl rfl ?_
          refine J_topeq 0 (by rw [hf]; rfl) ?_
          refine J_istore_n (lv' := [(0, .ref (ka S 30 0)), (1, .int (nI c)), (2, .int 0)]) (by decide) rfl dX8_freeChannel_5 ?_
          refine J_iload_n 2 rfl dX8_freeChannel_6 ?_
          refine J_iconst (v := 3) (by decide) dX8_freeChannel_7 ?_
          refine J_icmp_ge 27 (by decide) dX8_freeChannel_8 (fun c2 => ?_) (fun c2 => ?_)
          · exact absurd c2 (by decide)
          refine J_aload_n 0 rfl dX8_freeChannel_11 ?_
          refine J_iload_n 2 rfl dX8_freeChannel_12 ?_
          refine J_topeq (nI 0) rfl ?_
          refine cv_8_153 (cells' := 0) (slots' := 0) dX8_freeChannel_13 (c_X8_speaker (h := 0) hM hn h150) n30 ⟨by decide, by decide⟩ rfl rfl (by decide) (by decide) (Nat.le_of_ble_eq_true rfl) (fun _ _ r3 => ?_) (fun _ _ h => h.elim)
          obtain ⟨rfl, rfl⟩ := r3
          refine J_eq (st' := [.int (oI (mOn m 0))]) rfl rfl rfl ?_
          refine J_topeq (nI o0) (by rw [e0]; rfl) ?_
          refine J_if_ge 21 (by decide) dX8_freeChannel_16 (fun c4 => ?_) (fun c4 => ?_)
          rotate_left
          · exfalso
            have Nc4 : ¬ (0 ≤ o0) := fun q => c4 ((nI_leI (a := 0) (b := o0) (by omega) (by omega)).mpr q)
            omega
          have Nc4 : 0 ≤ o0 := (nI_leI (a := 0) (b := o0) (by omega) (by omega)).mp c4
          refine J_iinc (v := 1) (lv' := [(0, .ref (ka S 30 0)), (1, .int (nI c)), (2, .int 1)]) 2 rfl (by decide) (by decide) rfl dX8_freeChannel_21 ?_
          refine J_goto 6 (by decide) dX8_freeChannel_24 ?_
          refine J_iload_n 2 rfl dX8_freeChannel_6 ?_
          refine J_iconst (v := 3) (by decide) dX8_freeChannel_7 ?_
          refine J_icmp_ge 27 (by decide) dX8_freeChannel_8 (fun c6 => ?_) (fun c6 => ?_)
          · exact absurd c6 (by decide)
          refine J_aload_n 0 rfl dX8_freeChannel_11 ?_
          refine J_iload_n 2 rfl dX8_freeChannel_12 ?_
          refine J_topeq (nI 1) rfl ?_
          refine cv_8_153 (cells' := 0) (slots' := 0) dX8_freeChannel_13 (c_X8_speaker (h := 1) hM hn h150) n30 ⟨by decide, by decide⟩ rfl rfl (by decide) (by decide) (Nat.le_of_ble_eq_true rfl) (fun _ _ r7 => ?_) (fun _ _ h => h.elim)
          obtain ⟨rfl, rfl⟩ := r7
          refine J_eq (st' := [.int (oI (mOn m 1))]) rfl rfl rfl ?_
          refine J_topeq (nI o1) (by rw [e1]; rfl) ?_
          refine J_if_ge 21 (by decide) dX8_freeChannel_16 (fun c8 => ?_) (fun c8 => ?_)
          rotate_left
          · exfalso
            have Nc8 : ¬ (0 ≤ o1) := fun q => c8 ((nI_leI (a := 0) (b := o1) (by omega) (by omega)).mpr q)
            omega
          have Nc8 : 0 ≤ o1 := (nI_leI (a := 0) (b := o1) (by omega) (by omega)).mp c8
          refine J_iinc (v := 2) (lv' := [(0, .ref (ka S 30 0)), (1, .int (nI c)), (2, .int 2)]) 2 rfl (by decide) (by decide) rfl dX8_freeChannel_21 ?_
          refine J_goto 6 (by decide) dX8_freeChannel_24 ?_
          refine J_iload_n 2 rfl dX8_freeChannel_6 ?_
          refine J_iconst (v := 3) (by decide) dX8_freeChannel_7 ?_
          refine J_icmp_ge 27 (by decide) dX8_freeChannel_8 (fun c10 => ?_) (fun c10 => ?_)
          · exact absurd c10 (by decide)
          refine J_aload_n 0 rfl dX8_freeChannel_11 ?_
          refine J_iload_n 2 rfl dX8_freeChannel_12 ?_
          refine J_topeq (nI 2) rfl ?_
          refine cv_8_153 (cells' := 0) (slots' := 0) dX8_freeChannel_13 (c_X8_speaker (h := 2) hM hn h150) n30 ⟨by decide, by decide⟩ rfl rfl (by decide) (by decide) (Nat.le_of_ble_eq_true rfl) (fun _ _ r11 => ?_) (fun _ _ h => h.elim)
          obtain ⟨rfl, rfl⟩ := r11
          refine J_eq (st' := [.int (oI (mOn m 2))]) rfl rfl rfl ?_
          refine J_topeq (-1) (by rw [e2]; rfl) ?_
          refine J_if_ge 21 (by decide) dX8_freeChannel_16 (fun c12 => ?_) (fun c12 => ?_)
          · exact absurd c12 (by decide)
          refine J_iload_n 2 rfl dX8_freeChannel_19 ?_
          exact J_ireturn rfl (by first | rfl | assumption | simp [kb_nar]) dX8_freeChannel_20 (⟨by simp [mFree, hf, *]; rfl, rfl⟩) (by omega) (by omega)
        · have b2 : o2 < 150 := by have := (mOn_some e2).1; omega
          skip
          refine Con_of (by decide +kernel) (Nat.le_of_ble_eq_true rfl) ?_
          refine J_eq (lv' := [(0, .ref (ka S 30 0)), (1, .int (nI c))]) rfl rfl rfl ?_
          refine J_aload_n 0 rfl dX8_freeChannel_0 ?_
          refine J_iload_n 1 rfl dX8_freeChannel_1 ?_
          refine cv_8_159 (cells' := 0) (slots' := 0) dX8_freeChannel_2 (c_X8_firstChannel hM (by omega)) n30 ⟨by decide, by decide⟩ rfl rfl (by decide) (by decide) (Nat.le_of_ble_eq_true rfl) (fun _ _ r1 => ?_) (fun _ _ h => h.elim)
          obtain ⟨rfl, rfl⟩ := r1
          refine J_eq (st' := [.int (nI (mFirst m c))]) rfl rfl rfl ?_
          refine J_topeq 0 (by rw [hf]; rfl) ?_
          refine J_istore_n (lv' := [(0, .ref (ka S 30 0)), (1, .int (nI c)), (2, .int 0)]) (by decide) rfl dX8_freeChannel_5 ?_
          refine J_iload_n 2 rfl dX8_freeChannel_6 ?_
          refine J_iconst (v := 3) (by decide) dX8_freeChannel_7 ?_
          refine J_icmp_ge 27 (by decide) dX8_freeChannel_8 (fun c2 => ?_) (fun c2 => ?_)
          · exact absurd c2 (by decide)
          refine J_aload_n 0 rfl dX8_freeChannel_11 ?_
          refine J_iload_n 2 rfl dX8_freeChannel_12 ?_
          refine J_topeq (nI 0) rfl ?_
          refine cv_8_153 (cells' := 0) (slots' := 0) dX8_freeChannel_13 (c_X8_speaker (h := 0) hM hn h150) n30 ⟨by decide, by decide⟩ rfl rfl (by decide) (by decide) (Nat.le_of_ble_eq_true rfl) (fun _ _ r3 => ?_) (fun _ _ h => h.elim)
          obtain ⟨rfl, rfl⟩ := r3
          refine J_eq (st' := [.int (oI (mOn m 0))]) rfl rfl rfl ?_
          refine J_topeq (nI o0) (by rw [e0]; rfl) ?_
          refine J_if_ge 21 (by decide) dX8_freeChannel_16 (fun c4 => ?_) (fun c4 => ?_)
          rotate_left
          · exfalso
            have Nc4 : ¬ (0 ≤ o0) := fun q => c4 ((nI_leI (a := 0) (b := o0) (by omega) (by omega)).mpr q)
            omega
          have Nc4 : 0 ≤ o0 := (nI_leI (a := 0) (b := o0) (by omega) (by omega)).mp c4
          refine J_iinc (v := 1) (lv' := [(0, .ref (ka S 30 0)), (1, .int (nI c)), (2, .int 1)]) 2 rfl (by decide) (by decide) rfl dX8_freeChannel_21 ?_
          refine J_goto 6 (by decide) dX8_freeChannel_24 ?_
          refine J_iload_n 2 rfl dX8_freeChannel_6 ?_
          refine J_iconst (v := 3) (by decide) dX8_freeChannel_7 ?_
          refine J_icmp_ge 27 (by decide) dX8_freeChannel_8 (fun c6 => ?_) (fun c6 => ?_)
          · exact absurd c6 (by decide)
          refine J_aload_n 0 rfl dX8_freeChannel_11 ?_
          refine J_iload_n 2 rfl dX8_freeChannel_12 ?_
          refine J_topeq (nI 1) rfl ?_
          refine cv_8_153 (cells' := 0) (slots' := 0) dX8_freeChannel_13 (c_X8_speaker (h := 1) hM hn h150) n30 ⟨by decide, by decide⟩ rfl rfl (by decide) (by decide) (Nat.le_of_ble_eq_true rfl) (fun _ _ r7 => ?_) (fun _ _ h => h.elim)
          obtain ⟨rfl, rfl⟩ := r7
          refine J_eq (st' := [.int (oI (mOn m 1))]) rfl rfl rfl ?_
          refine J_topeq (nI o1) (by rw [e1]; rfl) ?_
          refine J_if_ge 21 (by decide) dX8_freeChannel_16 (fun c8 => ?_) (fun c8 => ?_)
          rotate_left
          · exfalso
            have Nc8 : ¬ (0 ≤ o1) := fun q => c8 ((nI_leI (a := 0) (b := o1) (by omega) (by omega)).mpr q)
            omega
          have Nc8 : 0 ≤ o1 := (nI_leI (a := 0) (b := o1) (by omega) (by omega)).mp c8
          refine J_iinc (v := 2) (lv' := [(0, .ref (ka S 30 0)), (1, .int (nI c)), (2, .int 2)]) 2 rfl (by decide) (by decide) rfl dX8_freeChannel_21 ?_
          refine J_goto 6 (by decide) dX8_freeChannel_24 ?_
          refine J_iload_n 2 rfl dX8_freeChannel_6 ?_
          refine J_iconst (v := 3) (by decide) dX8_freeChannel_7 ?_
          refine J_icmp_ge 27 (by decide) dX8_freeChannel_8 (fun c10 => ?_) (fun c10 => ?_)
          · exact absurd c10 (by decide)
          refine J_aload_n 0 rfl dX8_freeChannel_11 ?_
          refine J_iload_n 2 rfl dX8_freeChannel_12 ?_
          refine J_topeq (nI 2) rfl ?_
          refine cv_8_153 (cells' := 0) (slots' := 0) dX8_freeChannel_13 (c_X8_speaker (h := 2) hM hn h150) n30 ⟨by decide, by decide⟩ rfl rfl (by decide) (by decide) (Nat.le_of_ble_eq_true rfl) (fun _ _ r11 => ?_) (fun _ _ h => h.elim)
          obtain ⟨rfl, rfl⟩ := r11
          refine J_eq (st' := [.int (oI (mOn m 2))]) rfl rfl rfl ?_
          refine J_topeq (nI o2) (by rw [e2]; rfl) ?_
          refine J_if_ge 21 (by decide) dX8_freeChannel_16 (fun c12 => ?_) (fun c12 => ?_)
          rotate_left
          · exfalso
            have Nc12 : ¬ (0 ≤ o2) := fun q => c12 ((nI_leI (a := 0) (b := o2) (by omega) (by omega)).mpr q)
            omega
          have Nc12 : 0 ≤ o2 := (nI_leI (a := 0) (b := o2) (by omega) (by omega)).mp c12
          refine J_iinc (v := 3) (lv' := [(0, .ref (ka S 30 0)), (1, .int (nI c)), (2, .int 3)]) 2 rfl (by decide) (by decide) rfl dX8_freeChannel_21 ?_
          refine J_goto 6 (by decide) dX8_freeChannel_24 ?_
          refine J_iload_n 2 rfl dX8_freeChannel_6 ?_
          refine J_iconst (v := 3) (by decide) dX8_freeChannel_7 ?_
          refine J_icmp_ge 27 (by decide) dX8_freeChannel_8 (fun c14 => ?_) (fun c14 => ?_)
          rotate_left
          · exact absurd (by decide) c14
          refine J_iconst (v := (-1)) (by decide) dX8_freeChannel_27 ?_
          exact J_ireturn rfl (by first | rfl | assumption | simp [kb_nar]) dX8_freeChannel_28 (⟨by simp [mFree, hf, *], rfl⟩) (by omega) (by omega)
  · skip
    rcases opt_split (mOn m 1) with e1 | ⟨o1, e1⟩
    · skip
      refine Con_of (by decide +kernel) (Nat.le_of_ble_eq_true rfl) ?_
      refine J_eq (lv' := [(0, .ref (ka S 30 0)), (1, .int (nI c))]) rfl rfl rfl ?_
      refine J_aload_n 0 rfl dX8_freeChannel_0 ?_
      refine J_iload_n 1 rfl dX8_freeChannel_1 ?_
      refine cv_8_159 (cells' := 0) (slots' := 0) dX8_freeChannel_2 (c_X8_firstChannel hM (by omega)) n30 ⟨by decide, by decide⟩ rfl rfl (by decide) (by decide) (Nat.le_of_ble_eq_true rfl) (fun _ _ r1 => ?_) (fun _ _ h => h.elim)
      obtain ⟨rfl, rfl⟩ := r1
      refine J_eq (st' := [.int (nI (mFirst m c))]) rfl rfl rfl ?_
      refine J_topeq 1 (by rw [hf]; rfl) ?_
      refine J_istore_n (lv' := [(0, .ref (ka S 30 0)), (1, .int (nI c)), (2, .int 1)]) (by decide) rfl dX8_freeChannel_5 ?_
      refine J_iload_n 2 rfl dX8_freeChannel_6 ?_
      refine J_iconst (v := 3) (by decide) dX8_freeChannel_7 ?_
      refine J_icmp_ge 27 (by decide) dX8_freeChannel_8 (fun c2 => ?_) (fun c2 => ?_)
      · exact absurd c2 (by decide)
      refine J_aload_n 0 rfl dX8_freeChannel_11 ?_
      refine J_iload_n 2 rfl dX8_freeChannel_12 ?_
      refine J_topeq (nI 1) rfl ?_
      refine cv_8_153 (cells' := 0) (slots' := 0) dX8_freeChannel_13 (c_X8_speaker (h := 1) hM hn h150) n30 ⟨by decide, by decide⟩ rfl rfl (by decide) (by decide) (Nat.le_of_ble_eq_true rfl) (fun _ _ r3 => ?_) (fun _ _ h => h.elim)
      obtain ⟨rfl, rfl⟩ := r3
      refine J_eq (st' := [.int (oI (mOn m 1))]) rfl rfl rfl ?_
      refine J_topeq (-1) (by rw [e1]; rfl) ?_
      refine J_if_ge 21 (by decide) dX8_freeChannel_16 (fun c4 => ?_) (fun c4 => ?_)
      · exact absurd c4 (by decide)
      refine J_iload_n 2 rfl dX8_freeChannel_19 ?_
      exact J_ireturn rfl (by first | rfl | assumption | simp [kb_nar]) dX8_freeChannel_20 (⟨by simp [mFree, hf, *]; rfl, rfl⟩) (by omega) (by omega)
    · have b1 : o1 < 150 := by have := (mOn_some e1).1; omega
      rcases opt_split (mOn m 2) with e2 | ⟨o2, e2⟩
      · skip
        refine Con_of (by decide +kernel) (Nat.le_of_ble_eq_true rfl) ?_
        refine J_eq (lv' := [(0, .ref (ka S 30 0)), (1, .int (nI c))]) rfl rfl rfl ?_
        refine J_aload_n 0 rfl dX8_freeChannel_0 ?_
        refine J_iload_n 1 rfl dX8_freeChannel_1 ?_
        refine cv_8_159 (cells' := 0) (slots' := 0) dX8_freeChannel_2 (c_X8_firstChannel hM (by omega)) n30 ⟨by decide, by decide⟩ rfl rfl (by decide) (by decide) (Nat.le_of_ble_eq_true rfl) (fun _ _ r1 => ?_) (fun _ _ h => h.elim)
        obtain ⟨rfl, rfl⟩ := r1
        refine J_eq (st' := [.int (nI (mFirst m c))]) rfl rfl rfl ?_
        refine J_topeq 1 (by rw [hf]; rfl) ?_
        refine J_istore_n (lv' := [(0, .ref (ka S 30 0)), (1, .int (nI c)), (2, .int 1)]) (by decide) rfl dX8_freeChannel_5 ?_
        refine J_iload_n 2 rfl dX8_freeChannel_6 ?_
        refine J_iconst (v := 3) (by decide) dX8_freeChannel_7 ?_
        refine J_icmp_ge 27 (by decide) dX8_freeChannel_8 (fun c2 => ?_) (fun c2 => ?_)
        · exact absurd c2 (by decide)
        refine J_aload_n 0 rfl dX8_freeChannel_11 ?_
        refine J_iload_n 2 rfl dX8_freeChannel_12 ?_
        refine J_topeq (nI 1) rfl ?_
        refine cv_8_153 (cells' := 0) (slots' := 0) dX8_freeChannel_13 (c_X8_speaker (h := 1) hM hn h150) n30 ⟨by decide, by decide⟩ rfl rfl (by decide) (by decide) (Nat.le_of_ble_eq_true rfl) (fun _ _ r3 => ?_) (fun _ _ h => h.elim)
        obtain ⟨rfl, rfl⟩ := r3
        refine J_eq (st' := [.int (oI (mOn m 1))]) rfl rfl rfl ?_
        refine J_topeq (nI o1) (by rw [e1]; rfl) ?_
        refine J_if_ge 21 (by decide) dX8_freeChannel_16 (fun c4 => ?_) (fun c4 => ?_)
        rotate_left
        · exfalso
          have Nc4 : ¬ (0 ≤ o1) := fun q => c4 ((nI_leI (a := 0) (b := o1) (by omega) (by omega)).mpr q)
          omega
        have Nc4 : 0 ≤ o1 := (nI_leI (a := 0) (b := o1) (by omega) (by omega)).mp c4
        refine J_iinc (v := 2) (lv' := [(0, .ref (ka S 30 0)), (1, .int (nI c)), (2, .int 2)]) 2 rfl (by decide) (by decide) rfl dX8_freeChannel_21 ?_
        refine J_goto 6 (by decide) dX8_freeChannel_24 ?_
        refine J_iload_n 2 rfl dX8_freeChannel_6 ?_
        refine J_iconst (v := 3) (by decide) dX8_freeChannel_7 ?_
        refine J_icmp_ge 27 (by decide) dX8_freeChannel_8 (fun c6 => ?_) (fun c6 => ?_)
        · exact absurd c6 (by decide)
        refine J_aload_n 0 rfl dX8_freeChannel_11 ?_
        refine J_iload_n 2 rfl dX8_freeChannel_12 ?_
        refine J_topeq (nI 2) rfl ?_
        refine cv_8_153 (cells' := 0) (slots' := 0) dX8_freeChannel_13 (c_X8_speaker (h := 2) hM hn h150) n30 ⟨by decide, by decide⟩ rfl rfl (by decide) (by decide) (Nat.le_of_ble_eq_true rfl) (fun _ _ r7 => ?_) (fun _ _ h => h.elim)
        obtain ⟨rfl, rfl⟩ := r7
        refine J_eq (st' := [.int (oI (mOn m 2))]) rfl rfl rfl ?_
        refine J_topeq (-1) (by rw [e2]; rfl) ?_
        refine J_if_ge 21 (by decide) dX8_freeChannel_16 (fun c8 => ?_) (fun c8 => ?_)
        · exact absurd c8 (by decide)
        refine J_iload_n 2 rfl dX8_freeChannel_19 ?_
        exact J_ireturn rfl (by first | rfl | assumption | simp [kb_nar]) dX8_freeChannel_20 (⟨by simp [mFree, hf, *]; rfl, rfl⟩) (by omega) (by omega)
      · have b2 : o2 < 150 := by have := (mOn_some e2).1; omega
        skip
        refine Con_of (by decide +kernel) (Nat.le_of_ble_eq_true rfl) ?_
        refine J_eq (lv' := [(0, .ref (ka S 30 0)), (1, .int (nI c))]) rfl rfl rfl ?_
        refine J_aload_n 0 rfl dX8_freeChannel_0 ?_
        refine J_iload_n 1 rfl dX8_freeChannel_1 ?_
        refine cv_8_159 (cells' := 0) (slots' := 0) dX8_freeChannel_2 (c_X8_firstChannel hM (by omega)) n30 ⟨by decide, by decide⟩ rfl rfl (by decide) (by decide) (Nat.le_of_ble_eq_true rfl) (fun _ _ r1 => ?_) (fun _ _ h => h.elim)
        obtain ⟨rfl, rfl⟩ := r1
        refine J_eq (st' := [.int (nI (mFirst m c))]) rfl rfl rfl ?_
        refine J_topeq 1 (by rw [hf]; rfl) ?_
        refine J_istore_n (lv' := [(0, .ref (ka S 30 0)), (1, .int (nI c)), (2, .int 1)]) (by decide) rfl dX8_freeChannel_5 ?_
        refine J_iload_n 2 rfl dX8_freeChannel_6 ?_
        refine J_iconst (v := 3) (by decide) dX8_freeChannel_7 ?_
        refine J_icmp_ge 27 (by decide) dX8_freeChannel_8 (fun c2 => ?_) (fun c2 => ?_)
        · exact absurd c2 (by decide)
        refine J_aload_n 0 rfl dX8_freeChannel_11 ?_
        refine J_iload_n 2 rfl dX8_freeChannel_12 ?_
        refine J_topeq (nI 1) rfl ?_
        refine cv_8_153 (cells' := 0) (slots' := 0) dX8_freeChannel_13 (c_X8_speaker (h := 1) hM hn h150) n30 ⟨by decide, by decide⟩ rfl rfl (by decide) (by decide) (Nat.le_of_ble_eq_true rfl) (fun _ _ r3 => ?_) (fun _ _ h => h.elim)
        obtain ⟨rfl, rfl⟩ := r3
        refine J_eq (st' := [.int (oI (mOn m 1))]) rfl rfl rfl ?_
        refine J_topeq (nI o1) (by rw [e1]; rfl) ?_
        refine J_if_ge 21 (by decide) dX8_freeChannel_16 (fun c4 => ?_) (fun c4 => ?_)
        rotate_left
        · exfalso
          have Nc4 : ¬ (0 ≤ o1) := fun q => c4 ((nI_leI (a := 0) (b := o1) (by omega) (by omega)).mpr q)
          omega
        have Nc4 : 0 ≤ o1 := (nI_leI (a := 0) (b := o1) (by omega) (by omega)).mp c4
        refine J_iinc (v := 2) (lv' := [(0, .ref (ka S 30 0)), (1, .int (nI c)), (2, .int 2)]) 2 rfl (by decide) (by decide) rfl dX8_freeChannel_21 ?_
        refine J_goto 6 (by decide) dX8_freeChannel_24 ?_
        refine J_iload_n 2 rfl dX8_freeChannel_6 ?_
        refine J_iconst (v := 3) (by decide) dX8_freeChannel_7 ?_
        refine J_icmp_ge 27 (by decide) dX8_freeChannel_8 (fun c6 => ?_) (fun c6 => ?_)
        · exact absurd c6 (by decide)
        refine J_aload_n 0 rfl dX8_freeChannel_11 ?_
        refine J_iload_n 2 rfl dX8_freeChannel_12 ?_
        refine J_topeq (nI 2) rfl ?_
        refine cv_8_153 (cells' := 0) (slots' := 0) dX8_freeChannel_13 (c_X8_speaker (h := 2) hM hn h150) n30 ⟨by decide, by decide⟩ rfl rfl (by decide) (by decide) (Nat.le_of_ble_eq_true rfl) (fun _ _ r7 => ?_) (fun _ _ h => h.elim)
        obtain ⟨rfl, rfl⟩ := r7
        refine J_eq (st' := [.int (oI (mOn m 2))]) rfl rfl rfl ?_
        refine J_topeq (nI o2) (by rw [e2]; rfl) ?_
        refine J_if_ge 21 (by decide) dX8_freeChannel_16 (fun c8 => ?_) (fun c8 => ?_)
        rotate_left
        · exfalso
          have Nc8 : ¬ (0 ≤ o2) := fun q => c8 ((nI_leI (a := 0) (b := o2) (by omega) (by omega)).mpr q)
          omega
        have Nc8 : 0 ≤ o2 := (nI_leI (a := 0) (b := o2) (by omega) (by omega)).mp c8
        refine J_iinc (v := 3) (lv' := [(0, .ref (ka S 30 0)), (1, .int (nI c)), (2, .int 3)]) 2 rfl (by decide) (by decide) rfl dX8_freeChannel_21 ?_
        refine J_goto 6 (by decide) dX8_freeChannel_24 ?_
        refine J_iload_n 2 rfl dX8_freeChannel_6 ?_
        refine J_iconst (v := 3) (by decide) dX8_freeChannel_7 ?_
        refine J_icmp_ge 27 (by decide) dX8_freeChannel_8 (fun c10 => ?_) (fun c10 => ?_)
        rotate_left
        · exact absurd (by decide) c10
        refine J_iconst (v := (-1)) (by decide) dX8_freeChannel_27 ?_
        exact J_ireturn rfl (by first | rfl | assumption | simp [kb_nar]) dX8_freeChannel_28 (⟨by simp [mFree, hf, *], rfl⟩) (by omega) (by omega)


set_option maxRecDepth 20000 in
set_option maxHeartbeats 1000000 in
theorem ls_X8_canBegin {cy : Nat → ClassId} {S : Nat → Nat → Nat} {I : kI} {L : kL} {R : kRf} {m : Mu} {cd v : Int32} {Q : kQT} {c h : Nat} {can : Bool} (hM : MR m cd I L) (hn : mN m) (h150 : mC m ≤ 150) (hc : c < mC m) (hh3 : h < 3) (kk : (mHav m c (mOn m h) || !mSh m v (mOn m h)) = true → J yX8_canBegin.cls yX8_canBegin.name cX8_canBegin 6 (some .boolean) 4 0 0 cy Q kF 31 [(0, .ref (ka S 30 0)), (1, .int (nI c)), (2, .int v), (3, .int (kb (can || (decide (mFirst m c ≤ h) && mHav m c (mOn m h))))), (4, .int (nI (h + 1)))] [] (wm cy S I L R) 0 0) (kf : (mHav m c (mOn m h) || !mSh m v (mOn m h)) = false → Q (some (.int 0)) (wm cy S I L R)) : J yX8_canBegin.cls yX8_canBegin.name cX8_canBegin 6 (some .boolean) 4 0 0 cy Q kF 31 [(0, .ref (ka S 30 0)), (1, .int (nI c)), (2, .int v), (3, .int (kb can)), (4, .int (nI h))] [] (wm cy S I L R) 0 0 := by
  have hf1 : mFirst m c ≤ 1 := by rcases mFirst_01 (m := m) (c := c) with q | q <;> omega
  rcases opt_split (mOn m h) with hm | ⟨p, hm⟩
  · cases can
    · skip
      refine J_iload 4 rfl dX8_canBegin_31 ?_
      refine J_iconst (v := 3) (by decide) dX8_canBegin_33 ?_
      refine J_icmp_ge 115 (by decide) dX8_canBegin_34 (fun c1 => ?_) (fun c1 => ?_)
      · exfalso
        have Nc1 : 3 ≤ h := (nI_leI (a := 3) (b := h) (by omega) (by omega)).mp c1
        omega
      have Nc1 : ¬ (3 ≤ h) := fun q => c1 ((nI_leI (a := 3) (b := h) (by omega) (by omega)).mpr q)
      refine J_aload_n 0 rfl dX8_canBegin_37 ?_
      refine J_iload 4 rfl dX8_canBegin_38 ?_
      refine cv_8_153 (cells' := 0) (slots' := 0) dX8_canBegin_40 (c_X8_speaker (h := h) hM hn h150) n30 ⟨by decide, by decide⟩ rfl rfl (by decide) (by decide) (Nat.le_of_ble_eq_true rfl) (fun _ _ r2 => ?_) (fun _ _ h => h.elim)
      obtain ⟨rfl, rfl⟩ := r2
      refine J_eq (st' := [.int (oI (mOn m h))]) rfl rfl rfl ?_
      refine J_topeq (-1) (by rw [hm]; rfl) ?_
      refine J_istore (lv' := [(0, .ref (ka S 30 0)), (1, .int (nI c)), (2, .int v), (3, .int 0), (4, .int (nI h)), (5, .int (-1))]) (by decide) rfl dX8_canBegin_43 ?_
      refine J_iload 5 rfl dX8_canBegin_45 ?_
      refine J_if_lt 74 (by decide) dX8_canBegin_47 (fun c3 => ?_) (fun c3 => ?_)
      rotate_left
      · exact absurd (by decide) c3
      refine J_iload_n 3 rfl dX8_canBegin_74 ?_
      refine J_if_ne 103 (by decide) dX8_canBegin_75 (fun c4 => ?_) (fun c4 => ?_)
      · exact absurd (by decide) c4
      refine J_iload 4 rfl dX8_canBegin_78 ?_
      refine J_aload_n 0 rfl dX8_canBegin_80 ?_
      refine J_iload_n 1 rfl dX8_canBegin_81 ?_
      refine cv_8_159 (cells' := 0) (slots' := 0) dX8_canBegin_82 (c_X8_firstChannel hM (by omega)) n30 ⟨by decide, by decide⟩ rfl rfl (by decide) (by decide) (Nat.le_of_ble_eq_true rfl) (fun _ _ r5 => ?_) (fun _ _ h => h.elim)
      obtain ⟨rfl, rfl⟩ := r5
      refine J_eq (st' := [.int (nI (mFirst m c)), .int (nI h)]) rfl rfl rfl ?_
      refine J_icmp_lt 107 (by decide) dX8_canBegin_85 (fun c6 => ?_) (fun c6 => ?_)
      · have Nc6 : h < (mFirst m c) := (nI_ltI (a := h) (b := (mFirst m c)) (by omega) (by omega)).mp c6
        refine J_iconst (v := 0) (by decide) dX8_canBegin_107 ?_
        refine J_istore_n (lv' := [(0, .ref (ka S 30 0)), (1, .int (nI c)), (2, .int v), (3, .int 0), (4, .int (nI h)), (5, .int (-1))]) (by decide) rfl dX8_canBegin_108 ?_
        refine J_iinc (v := (nI (h + 1))) (lv' := [(0, .ref (ka S 30 0)), (1, .int (nI c)), (2, .int v), (3, .int 0), (4, .int (nI (h + 1))), (5, .int (-1))]) 4 rfl (by exact nI_add h 1) (by decide) rfl dX8_canBegin_109 ?_
        refine J_goto 31 (by decide) dX8_canBegin_112 ?_
        have e1 : (mHav m c (mOn m h) || !mSh m v (mOn m h)) = true := by rw [hm]; simp [mHav, mSh, *]
        have e3 : decide (mFirst m c ≤ h) = true ∨ decide (mFirst m c ≤ h) = false := by cases decide (mFirst m c ≤ h) <;> simp
        have e2 : (false || (decide (mFirst m c ≤ h) && mHav m c (mOn m h))) = false := by
          rw [hm]
          first
          | (simp [mHav, *]; done)
          | (rw [decide_eq_true (p := mFirst m c ≤ h) (by omega)]; simp [mHav, *]; done)
          | (rw [decide_eq_false (p := mFirst m c ≤ h) (by omega)]; simp [mHav, *]; done)
        have kk := kk e1
        rw [e2] at kk
        refine J_sub (lv' := [(0, .ref (ka S 30 0)), (1, .int (nI c)), (2, .int v), (3, .int 0), (4, .int (nI (h + 1)))]) [0, 1, 2, 3, 4] rfl ?_
        exact kk
      · have Nc6 : ¬ (h < (mFirst m c)) := fun q => c6 ((nI_ltI (a := h) (b := (mFirst m c)) (by omega) (by omega)).mpr q)
        refine J_iload 5 rfl dX8_canBegin_88 ?_
        refine J_if_lt 103 (by decide) dX8_canBegin_90 (fun c8 => ?_) (fun c8 => ?_)
        rotate_left
        · exact absurd (by decide) c8
        refine J_iconst (v := 1) (by decide) dX8_canBegin_103 ?_
        refine J_goto 108 (by decide) dX8_canBegin_104 ?_
        refine J_istore_n (lv' := [(0, .ref (ka S 30 0)), (1, .int (nI c)), (2, .int v), (3, .int 1), (4, .int (nI h)), (5, .int (-1))]) (by decide) rfl dX8_canBegin_108 ?_
        refine J_iinc (v := (nI (h + 1))) (lv' := [(0, .ref (ka S 30 0)), (1, .int (nI c)), (2, .int v), (3, .int 1), (4, .int (nI (h + 1))), (5, .int (-1))]) 4 rfl (by exact nI_add h 1) (by decide) rfl dX8_canBegin_109 ?_
        refine J_goto 31 (by decide) dX8_canBegin_112 ?_
        have e1 : (mHav m c (mOn m h) || !mSh m v (mOn m h)) = true := by rw [hm]; simp [mHav, mSh, *]
        have e3 : decide (mFirst m c ≤ h) = true ∨ decide (mFirst m c ≤ h) = false := by cases decide (mFirst m c ≤ h) <;> simp
        have e2 : (false || (decide (mFirst m c ≤ h) && mHav m c (mOn m h))) = true := by
          rw [hm]
          first
          | (simp [mHav, *]; done)
          | (rw [decide_eq_true (p := mFirst m c ≤ h) (by omega)]; simp [mHav, *]; done)
          | (rw [decide_eq_false (p := mFirst m c ≤ h) (by omega)]; simp [mHav, *]; done)
        have kk := kk e1
        rw [e2] at kk
        refine J_sub (lv' := [(0, .ref (ka S 30 0)), (1, .int (nI c)), (2, .int v), (3, .int 1), (4, .int (nI (h + 1)))]) [0, 1, 2, 3, 4] rfl ?_
        exact kk
    · skip
      refine J_iload 4 rfl dX8_canBegin_31 ?_
      refine J_iconst (v := 3) (by decide) dX8_canBegin_33 ?_
      refine J_icmp_ge 115 (by decide) dX8_canBegin_34 (fun c1 => ?_) (fun c1 => ?_)
      · exfalso
        have Nc1 : 3 ≤ h := (nI_leI (a := 3) (b := h) (by omega) (by omega)).mp c1
        omega
      have Nc1 : ¬ (3 ≤ h) := fun q => c1 ((nI_leI (a := 3) (b := h) (by omega) (by omega)).mpr q)
      refine J_aload_n 0 rfl dX8_canBegin_37 ?_
      refine J_iload 4 rfl dX8_canBegin_38 ?_
      refine cv_8_153 (cells' := 0) (slots' := 0) dX8_canBegin_40 (c_X8_speaker (h := h) hM hn h150) n30 ⟨by decide, by decide⟩ rfl rfl (by decide) (by decide) (Nat.le_of_ble_eq_true rfl) (fun _ _ r2 => ?_) (fun _ _ h => h.elim)
      obtain ⟨rfl, rfl⟩ := r2
      refine J_eq (st' := [.int (oI (mOn m h))]) rfl rfl rfl ?_
      refine J_topeq (-1) (by rw [hm]; rfl) ?_
      refine J_istore (lv' := [(0, .ref (ka S 30 0)), (1, .int (nI c)), (2, .int v), (3, .int 1), (4, .int (nI h)), (5, .int (-1))]) (by decide) rfl dX8_canBegin_43 ?_
      refine J_iload 5 rfl dX8_canBegin_45 ?_
      refine J_if_lt 74 (by decide) dX8_canBegin_47 (fun c3 => ?_) (fun c3 => ?_)
      rotate_left
      · exact absurd (by decide) c3
      refine J_iload_n 3 rfl dX8_canBegin_74 ?_
      refine J_if_ne 103 (by decide) dX8_canBegin_75 (fun c4 => ?_) (fun c4 => ?_)
      rotate_left
      · exact absurd c4 (by decide)
      refine J_iconst (v := 1) (by decide) dX8_canBegin_103 ?_
      refine J_goto 108 (by decide) dX8_canBegin_104 ?_
      refine J_istore_n (lv' := [(0, .ref (ka S 30 0)), (1, .int (nI c)), (2, .int v), (3, .int 1), (4, .int (nI h)), (5, .int (-1))]) (by decide) rfl dX8_canBegin_108 ?_
      refine J_iinc (v := (nI (h + 1))) (lv' := [(0, .ref (ka S 30 0)), (1, .int (nI c)), (2, .int v), (3, .int 1), (4, .int (nI (h + 1))), (5, .int (-1))]) 4 rfl (by exact nI_add h 1) (by decide) rfl dX8_canBegin_109 ?_
      refine J_goto 31 (by decide) dX8_canBegin_112 ?_
      have e1 : (mHav m c (mOn m h) || !mSh m v (mOn m h)) = true := by rw [hm]; simp [mHav, mSh, *]
      have e3 : decide (mFirst m c ≤ h) = true ∨ decide (mFirst m c ≤ h) = false := by cases decide (mFirst m c ≤ h) <;> simp
      have e2 : (true || (decide (mFirst m c ≤ h) && mHav m c (mOn m h))) = true := by
        rw [hm]
        first
        | (simp [mHav, *]; done)
        | (rw [decide_eq_true (p := mFirst m c ≤ h) (by omega)]; simp [mHav, *]; done)
        | (rw [decide_eq_false (p := mFirst m c ≤ h) (by omega)]; simp [mHav, *]; done)
      have kk := kk e1
      rw [e2] at kk
      refine J_sub (lv' := [(0, .ref (ka S 30 0)), (1, .int (nI c)), (2, .int v), (3, .int 1), (4, .int (nI (h + 1)))]) [0, 1, 2, 3, 4] rfl ?_
      exact kk
  · have hp := (mOn_some hm).1
    have hp150 : p < 150 := by omega
    cases hb : mBreak m c p
    · cases can
      · skip
        refine J_iload 4 rfl dX8_canBegin_31 ?_
        refine J_iconst (v := 3) (by decide) dX8_canBegin_33 ?_
        refine J_icmp_ge 115 (by decide) dX8_canBegin_34 (fun c1 => ?_) (fun c1 => ?_)
        · exfalso
          have Nc1 : 3 ≤ h := (nI_leI (a := 3) (b := h) (by omega) (by omega)).mp c1
          omega
        have Nc1 : ¬ (3 ≤ h) := fun q => c1 ((nI_leI (a := 3) (b := h) (by omega) (by omega)).mpr q)
        refine J_aload_n 0 rfl dX8_canBegin_37 ?_
        refine J_iload 4 rfl dX8_canBegin_38 ?_
        refine cv_8_153 (cells' := 0) (slots' := 0) dX8_canBegin_40 (c_X8_speaker (h := h) hM hn h150) n30 ⟨by decide, by decide⟩ rfl rfl (by decide) (by decide) (Nat.le_of_ble_eq_true rfl) (fun _ _ r2 => ?_) (fun _ _ h => h.elim)
        obtain ⟨rfl, rfl⟩ := r2
        refine J_eq (st' := [.int (oI (mOn m h))]) rfl rfl rfl ?_
        refine J_topeq (nI p) (by rw [hm]; rfl) ?_
        refine J_istore (lv' := [(0, .ref (ka S 30 0)), (1, .int (nI c)), (2, .int v), (3, .int 0), (4, .int (nI h)), (5, .int (nI p))]) (by decide) rfl dX8_canBegin_43 ?_
        refine J_iload 5 rfl dX8_canBegin_45 ?_
        refine J_if_lt 74 (by decide) dX8_canBegin_47 (fun c3 => ?_) (fun c3 => ?_)
        · exfalso
          have Nc3 : p < 0 := (nI_ltI (a := p) (b := 0) (by omega) (by omega)).mp c3
          omega
        have Nc3 : ¬ (p < 0) := fun q => c3 ((nI_ltI (a := p) (b := 0) (by omega) (by omega)).mpr q)
        refine J_aload_n 0 rfl dX8_canBegin_50 ?_
        refine gf_8_54 n30 dX8_canBegin_51 ?_
        refine J_iload 5 rfl dX8_canBegin_54 ?_
        refine J_iald p 0 n57 rfl rfl (vp_in_nI (by omega) (by decide)) (nI_toNat (by omega)) dX8_canBegin_56 ?_
        refine J_topeq (m.1 57 p) (hM.1 57 p rfl) ?_
        refine J_iload_n 2 rfl dX8_canBegin_57 ?_
        refine J_iand dX8_canBegin_58 ?_
        refine J_if_eq 74 (by decide) dX8_canBegin_59 (fun c4 => ?_) (fun c4 => ?_)
        · skip
          refine J_iload_n 3 rfl dX8_canBegin_74 ?_
          refine J_if_ne 103 (by decide) dX8_canBegin_75 (fun c5 => ?_) (fun c5 => ?_)
          · exact absurd (by decide) c5
          refine J_iload 4 rfl dX8_canBegin_78 ?_
          refine J_aload_n 0 rfl dX8_canBegin_80 ?_
          refine J_iload_n 1 rfl dX8_canBegin_81 ?_
          refine cv_8_159 (cells' := 0) (slots' := 0) dX8_canBegin_82 (c_X8_firstChannel hM (by omega)) n30 ⟨by decide, by decide⟩ rfl rfl (by decide) (by decide) (Nat.le_of_ble_eq_true rfl) (fun _ _ r6 => ?_) (fun _ _ h => h.elim)
          obtain ⟨rfl, rfl⟩ := r6
          refine J_eq (st' := [.int (nI (mFirst m c)), .int (nI h)]) rfl rfl rfl ?_
          refine J_icmp_lt 107 (by decide) dX8_canBegin_85 (fun c7 => ?_) (fun c7 => ?_)
          · have Nc7 : h < (mFirst m c) := (nI_ltI (a := h) (b := (mFirst m c)) (by omega) (by omega)).mp c7
            refine J_iconst (v := 0) (by decide) dX8_canBegin_107 ?_
            refine J_istore_n (lv' := [(0, .ref (ka S 30 0)), (1, .int (nI c)), (2, .int v), (3, .int 0), (4, .int (nI h)), (5, .int (nI p))]) (by decide) rfl dX8_canBegin_108 ?_
            refine J_iinc (v := (nI (h + 1))) (lv' := [(0, .ref (ka S 30 0)), (1, .int (nI c)), (2, .int v), (3, .int 0), (4, .int (nI (h + 1))), (5, .int (nI p))]) 4 rfl (by exact nI_add h 1) (by decide) rfl dX8_canBegin_109 ?_
            refine J_goto 31 (by decide) dX8_canBegin_112 ?_
            have e1 : (mHav m c (mOn m h) || !mSh m v (mOn m h)) = true := by rw [hm]; simp [mHav, mSh, *]
            have e3 : decide (mFirst m c ≤ h) = true ∨ decide (mFirst m c ≤ h) = false := by cases decide (mFirst m c ≤ h) <;> simp
            have e2 : (false || (decide (mFirst m c ≤ h) && mHav m c (mOn m h))) = false := by
              rw [hm]
              first
              | (simp [mHav, *]; done)
              | (rw [decide_eq_true (p := mFirst m c ≤ h) (by omega)]; simp [mHav, *]; done)
              | (rw [decide_eq_false (p := mFirst m c ≤ h) (by omega)]; simp [mHav, *]; done)
            have kk := kk e1
            rw [e2] at kk
            refine J_sub (lv' := [(0, .ref (ka S 30 0)), (1, .int (nI c)), (2, .int v), (3, .int 0), (4, .int (nI (h + 1)))]) [0, 1, 2, 3, 4] rfl ?_
            exact kk
          · have Nc7 : ¬ (h < (mFirst m c)) := fun q => c7 ((nI_ltI (a := h) (b := (mFirst m c)) (by omega) (by omega)).mpr q)
            refine J_iload 5 rfl dX8_canBegin_88 ?_
            refine J_if_lt 103 (by decide) dX8_canBegin_90 (fun c9 => ?_) (fun c9 => ?_)
            · exfalso
              have Nc9 : p < 0 := (nI_ltI (a := p) (b := 0) (by omega) (by omega)).mp c9
              omega
            have Nc9 : ¬ (p < 0) := fun q => c9 ((nI_ltI (a := p) (b := 0) (by omega) (by omega)).mpr q)
            refine J_aload_n 0 rfl dX8_canBegin_93 ?_
            refine J_iload_n 1 rfl dX8_canBegin_94 ?_
            refine J_iload 5 rfl dX8_canBegin_95 ?_
            refine cv_8_156 (cells' := 0) (slots' := 0) dX8_canBegin_97 (c_X8_canBreak (a := c) (b := p) hM (by omega) (by omega)) n30 ⟨by decide, by decide⟩ rfl rfl (by decide) (by decide) (Nat.le_of_ble_eq_true rfl) (fun _ _ r10 => ?_) (fun _ _ h => h.elim)
            obtain ⟨rfl, rfl⟩ := r10
            refine J_eq (st' := [.int (kb (mBreak m c p))]) rfl rfl rfl ?_
            refine J_topeq 0 (by rw [hb]; rfl) ?_
            refine J_if_eq 107 (by decide) dX8_canBegin_100 (fun c11 => ?_) (fun c11 => ?_)
            rotate_left
            · exact absurd (by decide) c11
            refine J_iconst (v := 0) (by decide) dX8_canBegin_107 ?_
            refine J_istore_n (lv' := [(0, .ref (ka S 30 0)), (1, .int (nI c)), (2, .int v), (3, .int 0), (4, .int (nI h)), (5, .int (nI p))]) (by decide) rfl dX8_canBegin_108 ?_
            refine J_iinc (v := (nI (h + 1))) (lv' := [(0, .ref (ka S 30 0)), (1, .int (nI c)), (2, .int v), (3, .int 0), (4, .int (nI (h + 1))), (5, .int (nI p))]) 4 rfl (by exact nI_add h 1) (by decide) rfl dX8_canBegin_109 ?_
            refine J_goto 31 (by decide) dX8_canBegin_112 ?_
            have e1 : (mHav m c (mOn m h) || !mSh m v (mOn m h)) = true := by rw [hm]; simp [mHav, mSh, *]
            have e3 : decide (mFirst m c ≤ h) = true ∨ decide (mFirst m c ≤ h) = false := by cases decide (mFirst m c ≤ h) <;> simp
            have e2 : (false || (decide (mFirst m c ≤ h) && mHav m c (mOn m h))) = false := by
              rw [hm]
              first
              | (simp [mHav, *]; done)
              | (rw [decide_eq_true (p := mFirst m c ≤ h) (by omega)]; simp [mHav, *]; done)
              | (rw [decide_eq_false (p := mFirst m c ≤ h) (by omega)]; simp [mHav, *]; done)
            have kk := kk e1
            rw [e2] at kk
            refine J_sub (lv' := [(0, .ref (ka S 30 0)), (1, .int (nI c)), (2, .int v), (3, .int 0), (4, .int (nI (h + 1)))]) [0, 1, 2, 3, 4] rfl ?_
            exact kk
        · skip
          refine J_aload_n 0 rfl dX8_canBegin_62 ?_
          refine J_iload_n 1 rfl dX8_canBegin_63 ?_
          refine J_iload 5 rfl dX8_canBegin_64 ?_
          refine cv_8_156 (cells' := 0) (slots' := 0) dX8_canBegin_66 (c_X8_canBreak (a := c) (b := p) hM (by omega) (by omega)) n30 ⟨by decide, by decide⟩ rfl rfl (by decide) (by decide) (Nat.le_of_ble_eq_true rfl) (fun _ _ r13 => ?_) (fun _ _ h => h.elim)
          obtain ⟨rfl, rfl⟩ := r13
          refine J_eq (st' := [.int (kb (mBreak m c p))]) rfl rfl rfl ?_
          refine J_topeq 0 (by rw [hb]; rfl) ?_
          refine J_if_ne 74 (by decide) dX8_canBegin_69 (fun c14 => ?_) (fun c14 => ?_)
          · exact absurd (by decide) c14
          refine J_iconst (v := 0) (by decide) dX8_canBegin_72 ?_
          exact J_ireturn rfl (by first | rfl | assumption | simp [kb_nar]) dX8_canBegin_73 (kf (by rw [hm]; simp [mHav, mSh, *])) (by omega) (by omega)
      · skip
        refine J_iload 4 rfl dX8_canBegin_31 ?_
        refine J_iconst (v := 3) (by decide) dX8_canBegin_33 ?_
        refine J_icmp_ge 115 (by decide) dX8_canBegin_34 (fun c1 => ?_) (fun c1 => ?_)
        · exfalso
          have Nc1 : 3 ≤ h := (nI_leI (a := 3) (b := h) (by omega) (by omega)).mp c1
          omega
        have Nc1 : ¬ (3 ≤ h) := fun q => c1 ((nI_leI (a := 3) (b := h) (by omega) (by omega)).mpr q)
        refine J_aload_n 0 rfl dX8_canBegin_37 ?_
        refine J_iload 4 rfl dX8_canBegin_38 ?_
        refine cv_8_153 (cells' := 0) (slots' := 0) dX8_canBegin_40 (c_X8_speaker (h := h) hM hn h150) n30 ⟨by decide, by decide⟩ rfl rfl (by decide) (by decide) (Nat.le_of_ble_eq_true rfl) (fun _ _ r2 => ?_) (fun _ _ h => h.elim)
        obtain ⟨rfl, rfl⟩ := r2
        refine J_eq (st' := [.int (oI (mOn m h))]) rfl rfl rfl ?_
        refine J_topeq (nI p) (by rw [hm]; rfl) ?_
        refine J_istore (lv' := [(0, .ref (ka S 30 0)), (1, .int (nI c)), (2, .int v), (3, .int 1), (4, .int (nI h)), (5, .int (nI p))]) (by decide) rfl dX8_canBegin_43 ?_
        refine J_iload 5 rfl dX8_canBegin_45 ?_
        refine J_if_lt 74 (by decide) dX8_canBegin_47 (fun c3 => ?_) (fun c3 => ?_)
        · exfalso
          have Nc3 : p < 0 := (nI_ltI (a := p) (b := 0) (by omega) (by omega)).mp c3
          omega
        have Nc3 : ¬ (p < 0) := fun q => c3 ((nI_ltI (a := p) (b := 0) (by omega) (by omega)).mpr q)
        refine J_aload_n 0 rfl dX8_canBegin_50 ?_
        refine gf_8_54 n30 dX8_canBegin_51 ?_
        refine J_iload 5 rfl dX8_canBegin_54 ?_
        refine J_iald p 0 n57 rfl rfl (vp_in_nI (by omega) (by decide)) (nI_toNat (by omega)) dX8_canBegin_56 ?_
        refine J_topeq (m.1 57 p) (hM.1 57 p rfl) ?_
        refine J_iload_n 2 rfl dX8_canBegin_57 ?_
        refine J_iand dX8_canBegin_58 ?_
        refine J_if_eq 74 (by decide) dX8_canBegin_59 (fun c4 => ?_) (fun c4 => ?_)
        · skip
          refine J_iload_n 3 rfl dX8_canBegin_74 ?_
          refine J_if_ne 103 (by decide) dX8_canBegin_75 (fun c5 => ?_) (fun c5 => ?_)
          rotate_left
          · exact absurd c5 (by decide)
          refine J_iconst (v := 1) (by decide) dX8_canBegin_103 ?_
          refine J_goto 108 (by decide) dX8_canBegin_104 ?_
          refine J_istore_n (lv' := [(0, .ref (ka S 30 0)), (1, .int (nI c)), (2, .int v), (3, .int 1), (4, .int (nI h)), (5, .int (nI p))]) (by decide) rfl dX8_canBegin_108 ?_
          refine J_iinc (v := (nI (h + 1))) (lv' := [(0, .ref (ka S 30 0)), (1, .int (nI c)), (2, .int v), (3, .int 1), (4, .int (nI (h + 1))), (5, .int (nI p))]) 4 rfl (by exact nI_add h 1) (by decide) rfl dX8_canBegin_109 ?_
          refine J_goto 31 (by decide) dX8_canBegin_112 ?_
          have e1 : (mHav m c (mOn m h) || !mSh m v (mOn m h)) = true := by rw [hm]; simp [mHav, mSh, *]
          have e3 : decide (mFirst m c ≤ h) = true ∨ decide (mFirst m c ≤ h) = false := by cases decide (mFirst m c ≤ h) <;> simp
          have e2 : (true || (decide (mFirst m c ≤ h) && mHav m c (mOn m h))) = true := by
            rw [hm]
            first
            | (simp [mHav, *]; done)
            | (rw [decide_eq_true (p := mFirst m c ≤ h) (by omega)]; simp [mHav, *]; done)
            | (rw [decide_eq_false (p := mFirst m c ≤ h) (by omega)]; simp [mHav, *]; done)
          have kk := kk e1
          rw [e2] at kk
          refine J_sub (lv' := [(0, .ref (ka S 30 0)), (1, .int (nI c)), (2, .int v), (3, .int 1), (4, .int (nI (h + 1)))]) [0, 1, 2, 3, 4] rfl ?_
          exact kk
        · skip
          refine J_aload_n 0 rfl dX8_canBegin_62 ?_
          refine J_iload_n 1 rfl dX8_canBegin_63 ?_
          refine J_iload 5 rfl dX8_canBegin_64 ?_
          refine cv_8_156 (cells' := 0) (slots' := 0) dX8_canBegin_66 (c_X8_canBreak (a := c) (b := p) hM (by omega) (by omega)) n30 ⟨by decide, by decide⟩ rfl rfl (by decide) (by decide) (Nat.le_of_ble_eq_true rfl) (fun _ _ r7 => ?_) (fun _ _ h => h.elim)
          obtain ⟨rfl, rfl⟩ := r7
          refine J_eq (st' := [.int (kb (mBreak m c p))]) rfl rfl rfl ?_
          refine J_topeq 0 (by rw [hb]; rfl) ?_
          refine J_if_ne 74 (by decide) dX8_canBegin_69 (fun c8 => ?_) (fun c8 => ?_)
          · exact absurd (by decide) c8
          refine J_iconst (v := 0) (by decide) dX8_canBegin_72 ?_
          exact J_ireturn rfl (by first | rfl | assumption | simp [kb_nar]) dX8_canBegin_73 (kf (by rw [hm]; simp [mHav, mSh, *])) (by omega) (by omega)
    · cases can
      · skip
        refine J_iload 4 rfl dX8_canBegin_31 ?_
        refine J_iconst (v := 3) (by decide) dX8_canBegin_33 ?_
        refine J_icmp_ge 115 (by decide) dX8_canBegin_34 (fun c1 => ?_) (fun c1 => ?_)
        · exfalso
          have Nc1 : 3 ≤ h := (nI_leI (a := 3) (b := h) (by omega) (by omega)).mp c1
          omega
        have Nc1 : ¬ (3 ≤ h) := fun q => c1 ((nI_leI (a := 3) (b := h) (by omega) (by omega)).mpr q)
        refine J_aload_n 0 rfl dX8_canBegin_37 ?_
        refine J_iload 4 rfl dX8_canBegin_38 ?_
        refine cv_8_153 (cells' := 0) (slots' := 0) dX8_canBegin_40 (c_X8_speaker (h := h) hM hn h150) n30 ⟨by decide, by decide⟩ rfl rfl (by decide) (by decide) (Nat.le_of_ble_eq_true rfl) (fun _ _ r2 => ?_) (fun _ _ h => h.elim)
        obtain ⟨rfl, rfl⟩ := r2
        refine J_eq (st' := [.int (oI (mOn m h))]) rfl rfl rfl ?_
        refine J_topeq (nI p) (by rw [hm]; rfl) ?_
        refine J_istore (lv' := [(0, .ref (ka S 30 0)), (1, .int (nI c)), (2, .int v), (3, .int 0), (4, .int (nI h)), (5, .int (nI p))]) (by decide) rfl dX8_canBegin_43 ?_
        refine J_iload 5 rfl dX8_canBegin_45 ?_
        refine J_if_lt 74 (by decide) dX8_canBegin_47 (fun c3 => ?_) (fun c3 => ?_)
        · exfalso
          have Nc3 : p < 0 := (nI_ltI (a := p) (b := 0) (by omega) (by omega)).mp c3
          omega
        have Nc3 : ¬ (p < 0) := fun q => c3 ((nI_ltI (a := p) (b := 0) (by omega) (by omega)).mpr q)
        refine J_aload_n 0 rfl dX8_canBegin_50 ?_
        refine gf_8_54 n30 dX8_canBegin_51 ?_
        refine J_iload 5 rfl dX8_canBegin_54 ?_
        refine J_iald p 0 n57 rfl rfl (vp_in_nI (by omega) (by decide)) (nI_toNat (by omega)) dX8_canBegin_56 ?_
        refine J_topeq (m.1 57 p) (hM.1 57 p rfl) ?_
        refine J_iload_n 2 rfl dX8_canBegin_57 ?_
        refine J_iand dX8_canBegin_58 ?_
        refine J_if_eq 74 (by decide) dX8_canBegin_59 (fun c4 => ?_) (fun c4 => ?_)
        · skip
          refine J_iload_n 3 rfl dX8_canBegin_74 ?_
          refine J_if_ne 103 (by decide) dX8_canBegin_75 (fun c5 => ?_) (fun c5 => ?_)
          · exact absurd (by decide) c5
          refine J_iload 4 rfl dX8_canBegin_78 ?_
          refine J_aload_n 0 rfl dX8_canBegin_80 ?_
          refine J_iload_n 1 rfl dX8_canBegin_81 ?_
          refine cv_8_159 (cells' := 0) (slots' := 0) dX8_canBegin_82 (c_X8_firstChannel hM (by omega)) n30 ⟨by decide, by decide⟩ rfl rfl (by decide) (by decide) (Nat.le_of_ble_eq_true rfl) (fun _ _ r6 => ?_) (fun _ _ h => h.elim)
          obtain ⟨rfl, rfl⟩ := r6
          refine J_eq (st' := [.int (nI (mFirst m c)), .int (nI h)]) rfl rfl rfl ?_
          refine J_icmp_lt 107 (by decide) dX8_canBegin_85 (fun c7 => ?_) (fun c7 => ?_)
          · have Nc7 : h < (mFirst m c) := (nI_ltI (a := h) (b := (mFirst m c)) (by omega) (by omega)).mp c7
            refine J_iconst (v := 0) (by decide) dX8_canBegin_107 ?_
            refine J_istore_n (lv' := [(0, .ref (ka S 30 0)), (1, .int (nI c)), (2, .int v), (3, .int 0), (4, .int (nI h)), (5, .int (nI p))]) (by decide) rfl dX8_canBegin_108 ?_
            refine J_iinc (v := (nI (h + 1))) (lv' := [(0, .ref (ka S 30 0)), (1, .int (nI c)), (2, .int v), (3, .int 0), (4, .int (nI (h + 1))), (5, .int (nI p))]) 4 rfl (by exact nI_add h 1) (by decide) rfl dX8_canBegin_109 ?_
            refine J_goto 31 (by decide) dX8_canBegin_112 ?_
            have e1 : (mHav m c (mOn m h) || !mSh m v (mOn m h)) = true := by rw [hm]; simp [mHav, mSh, *]
            have e3 : decide (mFirst m c ≤ h) = true ∨ decide (mFirst m c ≤ h) = false := by cases decide (mFirst m c ≤ h) <;> simp
            have e2 : (false || (decide (mFirst m c ≤ h) && mHav m c (mOn m h))) = false := by
              rw [hm]
              first
              | (simp [mHav, *]; done)
              | (rw [decide_eq_true (p := mFirst m c ≤ h) (by omega)]; simp [mHav, *]; done)
              | (rw [decide_eq_false (p := mFirst m c ≤ h) (by omega)]; simp [mHav, *]; done)
            have kk := kk e1
            rw [e2] at kk
            refine J_sub (lv' := [(0, .ref (ka S 30 0)), (1, .int (nI c)), (2, .int v), (3, .int 0), (4, .int (nI (h + 1)))]) [0, 1, 2, 3, 4] rfl ?_
            exact kk
          · have Nc7 : ¬ (h < (mFirst m c)) := fun q => c7 ((nI_ltI (a := h) (b := (mFirst m c)) (by omega) (by omega)).mpr q)
            refine J_iload 5 rfl dX8_canBegin_88 ?_
            refine J_if_lt 103 (by decide) dX8_canBegin_90 (fun c9 => ?_) (fun c9 => ?_)
            · exfalso
              have Nc9 : p < 0 := (nI_ltI (a := p) (b := 0) (by omega) (by omega)).mp c9
              omega
            have Nc9 : ¬ (p < 0) := fun q => c9 ((nI_ltI (a := p) (b := 0) (by omega) (by omega)).mpr q)
            refine J_aload_n 0 rfl dX8_canBegin_93 ?_
            refine J_iload_n 1 rfl dX8_canBegin_94 ?_
            refine J_iload 5 rfl dX8_canBegin_95 ?_
            refine cv_8_156 (cells' := 0) (slots' := 0) dX8_canBegin_97 (c_X8_canBreak (a := c) (b := p) hM (by omega) (by omega)) n30 ⟨by decide, by decide⟩ rfl rfl (by decide) (by decide) (Nat.le_of_ble_eq_true rfl) (fun _ _ r10 => ?_) (fun _ _ h => h.elim)
            obtain ⟨rfl, rfl⟩ := r10
            refine J_eq (st' := [.int (kb (mBreak m c p))]) rfl rfl rfl ?_
            refine J_topeq 1 (by rw [hb]; rfl) ?_
            refine J_if_eq 107 (by decide) dX8_canBegin_100 (fun c11 => ?_) (fun c11 => ?_)
            · exact absurd c11 (by decide)
            refine J_iconst (v := 1) (by decide) dX8_canBegin_103 ?_
            refine J_goto 108 (by decide) dX8_canBegin_104 ?_
            refine J_istore_n (lv' := [(0, .ref (ka S 30 0)), (1, .int (nI c)), (2, .int v), (3, .int 1), (4, .int (nI h)), (5, .int (nI p))]) (by decide) rfl dX8_canBegin_108 ?_
            refine J_iinc (v := (nI (h + 1))) (lv' := [(0, .ref (ka S 30 0)), (1, .int (nI c)), (2, .int v), (3, .int 1), (4, .int (nI (h + 1))), (5, .int (nI p))]) 4 rfl (by exact nI_add h 1) (by decide) rfl dX8_canBegin_109 ?_
            refine J_goto 31 (by decide) dX8_canBegin_112 ?_
            have e1 : (mHav m c (mOn m h) || !mSh m v (mOn m h)) = true := by rw [hm]; simp [mHav, mSh, *]
            have e3 : decide (mFirst m c ≤ h) = true ∨ decide (mFirst m c ≤ h) = false := by cases decide (mFirst m c ≤ h) <;> simp
            have e2 : (false || (decide (mFirst m c ≤ h) && mHav m c (mOn m h))) = true := by
              rw [hm]
              first
              | (simp [mHav, *]; done)
              | (rw [decide_eq_true (p := mFirst m c ≤ h) (by omega)]; simp [mHav, *]; done)
              | (rw [decide_eq_false (p := mFirst m c ≤ h) (by omega)]; simp [mHav, *]; done)
            have kk := kk e1
            rw [e2] at kk
            refine J_sub (lv' := [(0, .ref (ka S 30 0)), (1, .int (nI c)), (2, .int v), (3, .int 1), (4, .int (nI (h + 1)))]) [0, 1, 2, 3, 4] rfl ?_
            exact kk
        · skip
          refine J_aload_n 0 rfl dX8_canBegin_62 ?_
          refine J_iload_n 1 rfl dX8_canBegin_63 ?_
          refine J_iload 5 rfl dX8_canBegin_64 ?_
          refine cv_8_156 (cells' := 0) (slots' := 0) dX8_canBegin_66 (c_X8_canBreak (a := c) (b := p) hM (by omega) (by omega)) n30 ⟨by decide, by decide⟩ rfl rfl (by decide) (by decide) (Nat.le_of_ble_eq_true rfl) (fun _ _ r13 => ?_) (fun _ _ h => h.elim)
          obtain ⟨rfl, rfl⟩ := r13
          refine J_eq (st' := [.int (kb (mBreak m c p))]) rfl rfl rfl ?_
          refine J_topeq 1 (by rw [hb]; rfl) ?_
          refine J_if_ne 74 (by decide) dX8_canBegin_69 (fun c14 => ?_) (fun c14 => ?_)
          rotate_left
          · exact absurd c14 (by decide)
          refine J_iload_n 3 rfl dX8_canBegin_74 ?_
          refine J_if_ne 103 (by decide) dX8_canBegin_75 (fun c15 => ?_) (fun c15 => ?_)
          · exact absurd (by decide) c15
          refine J_iload 4 rfl dX8_canBegin_78 ?_
          refine J_aload_n 0 rfl dX8_canBegin_80 ?_
          refine J_iload_n 1 rfl dX8_canBegin_81 ?_
          refine cv_8_159 (cells' := 0) (slots' := 0) dX8_canBegin_82 (c_X8_firstChannel hM (by omega)) n30 ⟨by decide, by decide⟩ rfl rfl (by decide) (by decide) (Nat.le_of_ble_eq_true rfl) (fun _ _ r16 => ?_) (fun _ _ h => h.elim)
          obtain ⟨rfl, rfl⟩ := r16
          refine J_eq (st' := [.int (nI (mFirst m c)), .int (nI h)]) rfl rfl rfl ?_
          refine J_icmp_lt 107 (by decide) dX8_canBegin_85 (fun c17 => ?_) (fun c17 => ?_)
          · have Nc17 : h < (mFirst m c) := (nI_ltI (a := h) (b := (mFirst m c)) (by omega) (by omega)).mp c17
            refine J_iconst (v := 0) (by decide) dX8_canBegin_107 ?_
            refine J_istore_n (lv' := [(0, .ref (ka S 30 0)), (1, .int (nI c)), (2, .int v), (3, .int 0), (4, .int (nI h)), (5, .int (nI p))]) (by decide) rfl dX8_canBegin_108 ?_
            refine J_iinc (v := (nI (h + 1))) (lv' := [(0, .ref (ka S 30 0)), (1, .int (nI c)), (2, .int v), (3, .int 0), (4, .int (nI (h + 1))), (5, .int (nI p))]) 4 rfl (by exact nI_add h 1) (by decide) rfl dX8_canBegin_109 ?_
            refine J_goto 31 (by decide) dX8_canBegin_112 ?_
            have e1 : (mHav m c (mOn m h) || !mSh m v (mOn m h)) = true := by rw [hm]; simp [mHav, mSh, *]
            have e3 : decide (mFirst m c ≤ h) = true ∨ decide (mFirst m c ≤ h) = false := by cases decide (mFirst m c ≤ h) <;> simp
            have e2 : (false || (decide (mFirst m c ≤ h) && mHav m c (mOn m h))) = false := by
              rw [hm]
              first
              | (simp [mHav, *]; done)
              | (rw [decide_eq_true (p := mFirst m c ≤ h) (by omega)]; simp [mHav, *]; done)
              | (rw [decide_eq_false (p := mFirst m c ≤ h) (by omega)]; simp [mHav, *]; done)
            have kk := kk e1
            rw [e2] at kk
            refine J_sub (lv' := [(0, .ref (ka S 30 0)), (1, .int (nI c)), (2, .int v), (3, .int 0), (4, .int (nI (h + 1)))]) [0, 1, 2, 3, 4] rfl ?_
            exact kk
          · have Nc17 : ¬ (h < (mFirst m c)) := fun q => c17 ((nI_ltI (a := h) (b := (mFirst m c)) (by omega) (by omega)).mpr q)
            refine J_iload 5 rfl dX8_canBegin_88 ?_
            refine J_if_lt 103 (by decide) dX8_canBegin_90 (fun c19 => ?_) (fun c19 => ?_)
            · exfalso
              have Nc19 : p < 0 := (nI_ltI (a := p) (b := 0) (by omega) (by omega)).mp c19
              omega
            have Nc19 : ¬ (p < 0) := fun q => c19 ((nI_ltI (a := p) (b := 0) (by omega) (by omega)).mpr q)
            refine J_aload_n 0 rfl dX8_canBegin_93 ?_
            refine J_iload_n 1 rfl dX8_canBegin_94 ?_
            refine J_iload 5 rfl dX8_canBegin_95 ?_
            refine cv_8_156 (cells' := 0) (slots' := 0) dX8_canBegin_97 (c_X8_canBreak (a := c) (b := p) hM (by omega) (by omega)) n30 ⟨by decide, by decide⟩ rfl rfl (by decide) (by decide) (Nat.le_of_ble_eq_true rfl) (fun _ _ r20 => ?_) (fun _ _ h => h.elim)
            obtain ⟨rfl, rfl⟩ := r20
            refine J_eq (st' := [.int (kb (mBreak m c p))]) rfl rfl rfl ?_
            refine J_topeq 1 (by rw [hb]; rfl) ?_
            refine J_if_eq 107 (by decide) dX8_canBegin_100 (fun c21 => ?_) (fun c21 => ?_)
            · exact absurd c21 (by decide)
            refine J_iconst (v := 1) (by decide) dX8_canBegin_103 ?_
            refine J_goto 108 (by decide) dX8_canBegin_104 ?_
            refine J_istore_n (lv' := [(0, .ref (ka S 30 0)), (1, .int (nI c)), (2, .int v), (3, .int 1), (4, .int (nI h)), (5, .int (nI p))]) (by decide) rfl dX8_canBegin_108 ?_
            refine J_iinc (v := (nI (h + 1))) (lv' := [(0, .ref (ka S 30 0)), (1, .int (nI c)), (2, .int v), (3, .int 1), (4, .int (nI (h + 1))), (5, .int (nI p))]) 4 rfl (by exact nI_add h 1) (by decide) rfl dX8_canBegin_109 ?_
            refine J_goto 31 (by decide) dX8_canBegin_112 ?_
            have e1 : (mHav m c (mOn m h) || !mSh m v (mOn m h)) = true := by rw [hm]; simp [mHav, mSh, *]
            have e3 : decide (mFirst m c ≤ h) = true ∨ decide (mFirst m c ≤ h) = false := by cases decide (mFirst m c ≤ h) <;> simp
            have e2 : (false || (decide (mFirst m c ≤ h) && mHav m c (mOn m h))) = true := by
              rw [hm]
              first
              | (simp [mHav, *]; done)
              | (rw [decide_eq_true (p := mFirst m c ≤ h) (by omega)]; simp [mHav, *]; done)
              | (rw [decide_eq_false (p := mFirst m c ≤ h) (by omega)]; simp [mHav, *]; done)
            have kk := kk e1
            rw [e2] at kk
            refine J_sub (lv' := [(0, .ref (ka S 30 0)), (1, .int (nI c)), (2, .int v), (3, .int 1), (4, .int (nI (h + 1)))]) [0, 1, 2, 3, 4] rfl ?_
            exact kk
      · skip
        refine J_iload 4 rfl dX8_canBegin_31 ?_
        refine J_iconst (v := 3) (by decide) dX8_canBegin_33 ?_
        refine J_icmp_ge 115 (by decide) dX8_canBegin_34 (fun c1 => ?_) (fun c1 => ?_)
        · exfalso
          have Nc1 : 3 ≤ h := (nI_leI (a := 3) (b := h) (by omega) (by omega)).mp c1
          omega
        have Nc1 : ¬ (3 ≤ h) := fun q => c1 ((nI_leI (a := 3) (b := h) (by omega) (by omega)).mpr q)
        refine J_aload_n 0 rfl dX8_canBegin_37 ?_
        refine J_iload 4 rfl dX8_canBegin_38 ?_
        refine cv_8_153 (cells' := 0) (slots' := 0) dX8_canBegin_40 (c_X8_speaker (h := h) hM hn h150) n30 ⟨by decide, by decide⟩ rfl rfl (by decide) (by decide) (Nat.le_of_ble_eq_true rfl) (fun _ _ r2 => ?_) (fun _ _ h => h.elim)
        obtain ⟨rfl, rfl⟩ := r2
        refine J_eq (st' := [.int (oI (mOn m h))]) rfl rfl rfl ?_
        refine J_topeq (nI p) (by rw [hm]; rfl) ?_
        refine J_istore (lv' := [(0, .ref (ka S 30 0)), (1, .int (nI c)), (2, .int v), (3, .int 1), (4, .int (nI h)), (5, .int (nI p))]) (by decide) rfl dX8_canBegin_43 ?_
        refine J_iload 5 rfl dX8_canBegin_45 ?_
        refine J_if_lt 74 (by decide) dX8_canBegin_47 (fun c3 => ?_) (fun c3 => ?_)
        · exfalso
          have Nc3 : p < 0 := (nI_ltI (a := p) (b := 0) (by omega) (by omega)).mp c3
          omega
        have Nc3 : ¬ (p < 0) := fun q => c3 ((nI_ltI (a := p) (b := 0) (by omega) (by omega)).mpr q)
        refine J_aload_n 0 rfl dX8_canBegin_50 ?_
        refine gf_8_54 n30 dX8_canBegin_51 ?_
        refine J_iload 5 rfl dX8_canBegin_54 ?_
        refine J_iald p 0 n57 rfl rfl (vp_in_nI (by omega) (by decide)) (nI_toNat (by omega)) dX8_canBegin_56 ?_
        refine J_topeq (m.1 57 p) (hM.1 57 p rfl) ?_
        refine J_iload_n 2 rfl dX8_canBegin_57 ?_
        refine J_iand dX8_canBegin_58 ?_
        refine J_if_eq 74 (by decide) dX8_canBegin_59 (fun c4 => ?_) (fun c4 => ?_)
        · skip
          refine J_iload_n 3 rfl dX8_canBegin_74 ?_
          refine J_if_ne 103 (by decide) dX8_canBegin_75 (fun c5 => ?_) (fun c5 => ?_)
          rotate_left
          · exact absurd c5 (by decide)
          refine J_iconst (v := 1) (by decide) dX8_canBegin_103 ?_
          refine J_goto 108 (by decide) dX8_canBegin_104 ?_
          refine J_istore_n (lv' := [(0, .ref (ka S 30 0)), (1, .int (nI c)), (2, .int v), (3, .int 1), (4, .int (nI h)), (5, .int (nI p))]) (by decide) rfl dX8_canBegin_108 ?_
          refine J_iinc (v := (nI (h + 1))) (lv' := [(0, .ref (ka S 30 0)), (1, .int (nI c)), (2, .int v), (3, .int 1), (4, .int (nI (h + 1))), (5, .int (nI p))]) 4 rfl (by exact nI_add h 1) (by decide) rfl dX8_canBegin_109 ?_
          refine J_goto 31 (by decide) dX8_canBegin_112 ?_
          have e1 : (mHav m c (mOn m h) || !mSh m v (mOn m h)) = true := by rw [hm]; simp [mHav, mSh, *]
          have e3 : decide (mFirst m c ≤ h) = true ∨ decide (mFirst m c ≤ h) = false := by cases decide (mFirst m c ≤ h) <;> simp
          have e2 : (true || (decide (mFirst m c ≤ h) && mHav m c (mOn m h))) = true := by
            rw [hm]
            first
            | (simp [mHav, *]; done)
            | (rw [decide_eq_true (p := mFirst m c ≤ h) (by omega)]; simp [mHav, *]; done)
            | (rw [decide_eq_false (p := mFirst m c ≤ h) (by omega)]; simp [mHav, *]; done)
          have kk := kk e1
          rw [e2] at kk
          refine J_sub (lv' := [(0, .ref (ka S 30 0)), (1, .int (nI c)), (2, .int v), (3, .int 1), (4, .int (nI (h + 1)))]) [0, 1, 2, 3, 4] rfl ?_
          exact kk
        · skip
          refine J_aload_n 0 rfl dX8_canBegin_62 ?_
          refine J_iload_n 1 rfl dX8_canBegin_63 ?_
          refine J_iload 5 rfl dX8_canBegin_64 ?_
          refine cv_8_156 (cells' := 0) (slots' := 0) dX8_canBegin_66 (c_X8_canBreak (a := c) (b := p) hM (by omega) (by omega)) n30 ⟨by decide, by decide⟩ rfl rfl (by decide) (by decide) (Nat.le_of_ble_eq_true rfl) (fun _ _ r7 => ?_) (fun _ _ h => h.elim)
          obtain ⟨rfl, rfl⟩ := r7
          refine J_eq (st' := [.int (kb (mBreak m c p))]) rfl rfl rfl ?_
          refine J_topeq 1 (by rw [hb]; rfl) ?_
          refine J_if_ne 74 (by decide) dX8_canBegin_69 (fun c8 => ?_) (fun c8 => ?_)
          rotate_left
          · exact absurd c8 (by decide)
          refine J_iload_n 3 rfl dX8_canBegin_74 ?_
          refine J_if_ne 103 (by decide) dX8_canBegin_75 (fun c9 => ?_) (fun c9 => ?_)
          rotate_left
          · exact absurd c9 (by decide)
          refine J_iconst (v := 1) (by decide) dX8_canBegin_103 ?_
          refine J_goto 108 (by decide) dX8_canBegin_104 ?_
          refine J_istore_n (lv' := [(0, .ref (ka S 30 0)), (1, .int (nI c)), (2, .int v), (3, .int 1), (4, .int (nI h)), (5, .int (nI p))]) (by decide) rfl dX8_canBegin_108 ?_
          refine J_iinc (v := (nI (h + 1))) (lv' := [(0, .ref (ka S 30 0)), (1, .int (nI c)), (2, .int v), (3, .int 1), (4, .int (nI (h + 1))), (5, .int (nI p))]) 4 rfl (by exact nI_add h 1) (by decide) rfl dX8_canBegin_109 ?_
          refine J_goto 31 (by decide) dX8_canBegin_112 ?_
          have e1 : (mHav m c (mOn m h) || !mSh m v (mOn m h)) = true := by rw [hm]; simp [mHav, mSh, *]
          have e3 : decide (mFirst m c ≤ h) = true ∨ decide (mFirst m c ≤ h) = false := by cases decide (mFirst m c ≤ h) <;> simp
          have e2 : (true || (decide (mFirst m c ≤ h) && mHav m c (mOn m h))) = true := by
            rw [hm]
            first
            | (simp [mHav, *]; done)
            | (rw [decide_eq_true (p := mFirst m c ≤ h) (by omega)]; simp [mHav, *]; done)
            | (rw [decide_eq_false (p := mFirst m c ≤ h) (by omega)]; simp [mHav, *]; done)
          have kk := kk e1
          rw [e2] at kk
          refine J_sub (lv' := [(0, .ref (ka S 30 0)), (1, .int (nI c)), (2, .int v), (3, .int 1), (4, .int (nI (h + 1)))]) [0, 1, 2, 3, 4] rfl ?_
          exact kk


set_option maxRecDepth 20000 in
set_option maxHeartbeats 1000000 in
theorem c_X8_canBegin {cy : Nat → ClassId} {S : Nat → Nat → Nat} {I : kI} {L : kL} {R : kRf} {m : Mu} {cd : Int32} {c : Nat} (hM : MR m cd I L) (hn : mN m) {B : Nat} (hI : Inv m B) (hc : c < mC m) : Con yX8_canBegin cX8_canBegin 6 (some .boolean) 4 0 0 cy [.ref (ka S 30 0), .int (nI c)] (wm cy S I L R) (fun r w' => r = some (.int (kb (mCan m c))) ∧ MX cy S R m cd w') kF := by
  have h150 := hI.2.2.1
  have h10 := hI.1
  obtain ⟨⟨f, t, k1, k2, k3, k4, -⟩, -⟩ := hI.2.2.2.1 c hc
  have hl10 : (mWay m (nI f) (nI t)).length ≤ 10 := by
    have := (gWay_le (adj := mAdj m) h10 k4 k2).1
    unfold mWay; rw [nI_toNat (by omega), nI_toNat (by omega)]; exact this
  have hcan : mCan m c = (decide (mWay m (nI f) (nI t) ≠ []) && mTak m c (mBits m (nI f) (nI t))) := by unfold mCan; rw [k1, k3]
  by_cases hne : mWay m (nI f) (nI t) ≠ []
  · rw [decide_eq_true hne, Bool.true_and] at hcan
    refine Con_of (by decide +kernel) (Nat.le_of_ble_eq_true rfl) ?_
    refine J_eq (lv' := [(0, .ref (ka S 30 0)), (1, .int (nI c))]) rfl rfl rfl ?_
    refine J_aload_n 0 rfl dX8_canBegin_0 ?_
    refine J_aload_n 0 rfl dX8_canBegin_1 ?_
    refine gf_8_35 n30 dX8_canBegin_2 ?_
    refine J_iload_n 1 rfl dX8_canBegin_5 ?_
    refine J_iald c 0 n51 rfl rfl (vp_in_nI (by omega) (by decide)) (nI_toNat (by omega)) dX8_canBegin_6 ?_
    refine J_topeq (nI f) ((hM.1 51 c rfl).trans (by exact k1)) ?_
    refine J_aload_n 0 rfl dX8_canBegin_7 ?_
    refine gf_8_38 n30 dX8_canBegin_8 ?_
    refine J_iload_n 1 rfl dX8_canBegin_11 ?_
    refine J_iald c 0 n52 rfl rfl (vp_in_nI (by omega) (by decide)) (nI_toNat (by omega)) dX8_canBegin_12 ?_
    refine J_topeq (nI t) ((hM.1 52 c rfl).trans (by exact k3)) ?_
    refine cv_8_138 (cells' := 0) (slots' := 0) dX8_canBegin_13 (c_X8_finds hM hn h10 k2 k4) n30 ⟨by decide, by decide⟩ rfl rfl (by decide) (by decide) (Nat.le_of_ble_eq_true rfl) (fun _ _ r2 => ?_) (fun _ _ h => h.elim)
    obtain ⟨rfl, I1, L1, rfl, hM1, hw⟩ := r2
    refine J_eq (st' := [.int (kb (decide (mWay m (nI f) (nI t) ≠ [])))]) rfl rfl rfl ?_
    refine J_topeq 1 (by rw [decide_eq_true hne]; rfl) ?_
    refine J_if_ne 21 (by decide) dX8_canBegin_16 (fun c3 => ?_) (fun c3 => ?_)
    rotate_left
    · exact absurd c3 (by decide)
    refine J_aload_n 0 rfl dX8_canBegin_21 ?_
    refine cv_8_149 (cells' := 0) (slots' := 0) dX8_canBegin_22 (c_X8_bits (l := mWay m (nI f) (nI t)) hM1 (hw hne).1 hl10 (hw hne).2) n30 ⟨by decide, by decide⟩ rfl rfl (by decide) (by decide) (Nat.le_of_ble_eq_true rfl) (fun _ _ r4 => ?_) (fun _ _ h => h.elim)
    obtain ⟨rfl, rfl⟩ := r4
    refine J_eq (st' := [.int (mBits m (nI f) (nI t))]) rfl rfl rfl ?_
    refine J_istore_n (lv' := [(0, .ref (ka S 30 0)), (1, .int (nI c)), (2, .int (mBits m (nI f) (nI t)))]) (by decide) rfl dX8_canBegin_25 ?_
    refine J_iconst (v := 0) (by decide) dX8_canBegin_26 ?_
    refine J_istore_n (lv' := [(0, .ref (ka S 30 0)), (1, .int (nI c)), (2, .int (mBits m (nI f) (nI t))), (3, .int 0)]) (by decide) rfl dX8_canBegin_27 ?_
    refine J_iconst (v := 0) (by decide) dX8_canBegin_28 ?_
    refine J_istore (lv' := [(0, .ref (ka S 30 0)), (1, .int (nI c)), (2, .int (mBits m (nI f) (nI t))), (3, .int 0), (4, .int 0)]) (by decide) rfl dX8_canBegin_29 ?_
    refine J_eq (lv' := [(0, .ref (ka S 30 0)), (1, .int (nI c)), (2, .int (mBits m (nI f) (nI t))), (3, .int (kb false)), (4, .int (nI 0))]) rfl rfl rfl ?_
    refine ls_X8_canBegin (h := 0) (v := (mBits m (nI f) (nI t))) hM1 hn h150 hc (by decide) (fun g0 => ?_) (fun g => ⟨by rw [hcan]; unfold mTak; rw [g]; rfl, _, _, rfl, hM1⟩)
    refine ls_X8_canBegin (h := 1) (v := (mBits m (nI f) (nI t))) hM1 hn h150 hc (by decide) (fun g1 => ?_) (fun g => ⟨by rw [hcan]; unfold mTak; rw [g0, g]; rfl, _, _, rfl, hM1⟩)
    refine ls_X8_canBegin (h := 2) (v := (mBits m (nI f) (nI t))) hM1 hn h150 hc (by decide) (fun g2 => ?_) (fun g => ⟨by rw [hcan]; unfold mTak; rw [g0, g1, g]; rfl, _, _, rfl, hM1⟩)
    refine J_iload 4 rfl dX8_canBegin_31 ?_
    refine J_iconst (v := 3) (by decide) dX8_canBegin_33 ?_
    refine J_icmp_ge 115 (by decide) dX8_canBegin_34 (fun c1 => ?_) (fun c1 => ?_)
    rotate_left
    · exfalso
      have Nc1 : ¬ (3 ≤ 3) := fun q => c1 ((nI_leI (a := 3) (b := 3) (by omega) (by omega)).mpr q)
      omega
    have Nc1 : 3 ≤ 3 := (nI_leI (a := 3) (b := 3) (by omega) (by omega)).mp c1
    refine J_iload_n 3 rfl dX8_canBegin_115 ?_
    exact J_ireturn rfl (by first | rfl | assumption | simp [kb_nar]) dX8_canBegin_116 (⟨by rw [hcan]; unfold mTak; rw [g0, g1, g2]; rcases mFirst_01 (m := m) (c := c) with q | q <;> rw [q] <;> simp [Bool.or_assoc], _, _, rfl, hM1⟩) (by omega) (by omega)
  · rw [decide_eq_false hne, Bool.false_and] at hcan
    refine Con_of (by decide +kernel) (Nat.le_of_ble_eq_true rfl) ?_
    refine J_eq (lv' := [(0, .ref (ka S 30 0)), (1, .int (nI c))]) rfl rfl rfl ?_
    refine J_aload_n 0 rfl dX8_canBegin_0 ?_
    refine J_aload_n 0 rfl dX8_canBegin_1 ?_
    refine gf_8_35 n30 dX8_canBegin_2 ?_
    refine J_iload_n 1 rfl dX8_canBegin_5 ?_
    refine J_iald c 0 n51 rfl rfl (vp_in_nI (by omega) (by decide)) (nI_toNat (by omega)) dX8_canBegin_6 ?_
    refine J_topeq (nI f) ((hM.1 51 c rfl).trans (by exact k1)) ?_
    refine J_aload_n 0 rfl dX8_canBegin_7 ?_
    refine gf_8_38 n30 dX8_canBegin_8 ?_
    refine J_iload_n 1 rfl dX8_canBegin_11 ?_
    refine J_iald c 0 n52 rfl rfl (vp_in_nI (by omega) (by decide)) (nI_toNat (by omega)) dX8_canBegin_12 ?_
    refine J_topeq (nI t) ((hM.1 52 c rfl).trans (by exact k3)) ?_
    refine cv_8_138 (cells' := 0) (slots' := 0) dX8_canBegin_13 (c_X8_finds hM hn h10 k2 k4) n30 ⟨by decide, by decide⟩ rfl rfl (by decide) (by decide) (Nat.le_of_ble_eq_true rfl) (fun _ _ r2 => ?_) (fun _ _ h => h.elim)
    obtain ⟨rfl, I1, L1, rfl, hM1, hw⟩ := r2
    refine J_eq (st' := [.int (kb (decide (mWay m (nI f) (nI t) ≠ [])))]) rfl rfl rfl ?_
    refine J_topeq 0 (by rw [decide_eq_false hne]; rfl) ?_
    refine J_if_ne 21 (by decide) dX8_canBegin_16 (fun c3 => ?_) (fun c3 => ?_)
    · exact absurd (by decide) c3
    refine J_iconst (v := 0) (by decide) dX8_canBegin_19 ?_
    exact J_ireturn rfl (by first | rfl | assumption | simp [kb_nar]) dX8_canBegin_20 (⟨by rw [hcan]; rfl, _, _, rfl, hM1⟩) (by omega) (by omega)

