/-! the model: a call begins; the walk -/
section MB
variable {m m' : Mu} {B : Nat}
theorem inv_g (hI : Inv m B) (hB : B < 2 ^ 30) : 0 ≤ m.1 30 27 := by
  obtain ⟨t, b, g, -, -, -, -, h1, h2, -, -⟩ := hI.2.2.2.2.2.2.1
  rw [h1]; exact nI_pos' (by omega)
theorem mN_same (h : sameI m m') (hn : mN m) : mN m' := by
  refine ⟨?_, ?_⟩
  · rw [h.eS, h.1 30 0 (by decide) (by decide) (by decide) (by decide) (by decide) (by decide)]; exact hn.1
  · rw [h.eC, h.1 30 10 (by decide) (by decide) (by decide) (by decide) (by decide) (by decide)]; exact hn.2
theorem mN_take {c : Nat} {v : Int32} (hn : mN m) : mN (mTake m c v) := by
  have e0 : (mTake m c v).1 30 0 = m.1 30 0 := by rw [take_tk]; show (tkM m c v).1 30 0 = _; exact tk_30 (by decide)
  have e1 : (mTake m c v).1 30 10 = m.1 30 10 := by rw [take_tk]; show (tkM m c v).1 30 10 = _; exact tk_30 (by decide)
  refine ⟨?_, ?_⟩
  · unfold mS; rw [e0]; exact hn.1
  · unfold mC; rw [e1]; exact hn.2
theorem mN_begin {c : Nat} (hn : mN m) : mN (mBegin m c) := mN_take (mN_same room_same (mN_same clear_same hn))
def tkR (b : Mu) (c : Nat) : Mu := mLog (ms (ms (ms (ms b 30 21 (b.1 30 21 + 1)) 58 c ((ms b 30 21 (b.1 30 21 + 1)).1 30 21)) 55 c 115) 45 (b.1 51 c).toNatClampNeg (b.1 30 26)) 98 (nI c)
theorem take_R {c : Nat} {v : Int32} : mTake m c v = tkR (mFirstB (ms (ms m 56 c (nI (mFree m c))) 57 c v) c) c := rfl
theorem firstB_p {c : Nat} {a : Mu} (h : a.1 58 c = 0) : mFirstB a c = ms (ms a 30 22 (a.1 30 22 + 1)) 30 23 (a.1 30 23 + (a.1 30 26 - a.1 60 c)) := if_pos h
theorem firstB_n {c : Nat} {a : Mu} (h : ¬ a.1 58 c = 0) : mFirstB a c = a := if_neg h
theorem mWk_self {w : Nat} : mWk m w (some w) = w := by unfold mWk; simp
theorem rk_sub {x y : Int32} (hx : x = 0 ∨ x = 1 ∨ x = 2 ∨ x = 3) (hy : y = 0 ∨ y = 1 ∨ y = 2 ∨ y = 3) : (x - y < 0 ↔ x < y) ∧ (x - y = 0 ↔ x = y) := by
  rcases hx with rfl | rfl | rfl | rfl <;> rcases hy with rfl | rfl | rfl | rfl <;> decide
theorem turn_u {c r : Nat} (hc : c < 150) (hr : r ≤ 3) : mTurn (150 * (3 - r) + c) m = if c < mC m ∧ mWait m c = true ∧ mRank m c = nI r ∧ mCan m c = true then mBegin m c else m := by
  have e1 : (150 * (3 - r) + c) % 150 = c := by omega
  have e2 : 3 - (150 * (3 - r) + c) / 150 = r := by omega
  unfold mTurn
  rw [e1, e2]
theorem mT_over {q : Nat} : ∀ (k p : Nat), q ≤ p → p + k = q + 150 → (∀ x, p ≤ x → x < q + 150 → mC m ≤ x % 150) → q + 150 ≤ 600 → mT p m = mT (q + 150) m := by
  intro k
  induction k with
  | zero =>
    intro p h1 h2 h3 h4
    have : p = q + 150 := by omega
    rw [this]
  | succ k ih =>
    intro p h1 h2 h3 h4
    rw [mT_step (by omega)]
    have e : mTurn p m = m := by
      unfold mTurn
      exact if_neg (fun z => by have := h3 p (Nat.le_refl _) (by omega); omega)
    rw [e]
    exact ih (p + 1) (by omega) (by omega) (fun x a b => h3 x (by omega) b) h4
end MB

set_option maxRecDepth 20000 in
set_option maxHeartbeats 1000000 in
theorem ls_X8_weakest {cy : Nat → ClassId} {S : Nat → Nat → Nat} {I : kI} {L : kL} {R : kRf} {m : Mu} {cd : Int32} {Q : kQT} {c h w p : Nat} (hM : MR m cd I L) (hn : mN m) {B : Nat} (hI : Inv m B) (hh3 : h < 3) (hm : mOn m h = some p) (hw : w < mC m) (kk : J yX8_weakest.cls yX8_weakest.name cX8_weakest 6 (some .int) 2 0 0 cy Q kF 16 [(0, .ref (ka S 30 0)), (1, .int (nI c)), (2, .int (nI (mWk m w (mOn m h)))), (3, .int (nI (h + 1)))] [] (wm cy S I L R) 0 0) : J yX8_weakest.cls yX8_weakest.name cX8_weakest 6 (some .int) 2 0 0 cy Q kF 16 [(0, .ref (ka S 30 0)), (1, .int (nI c)), (2, .int (nI w)), (3, .int (nI h))] [] (wm cy S I L R) 0 0 := by
  have h150 := hI.2.2.1
  have hp := (mOn_some hm).1
  obtain ⟨qa, qb⟩ := rk_sub (rank_in hI.2.2.2.1 hp) (rank_in hI.2.2.2.1 hw)
  refine J_iload_n 3 rfl dX8_weakest_16 ?_
  refine J_iconst (v := 3) (by decide) dX8_weakest_17 ?_
  refine J_icmp_ge 85 (by decide) dX8_weakest_18 (fun c1 => ?_) (fun c1 => ?_)
  · exfalso
    have Nc1 : 3 ≤ h := (nI_leI (a := 3) (b := h) (by omega) (by omega)).mp c1
    omega
  have Nc1 : ¬ (3 ≤ h) := fun q => c1 ((nI_leI (a := 3) (b := h) (by omega) (by omega)).mpr q)
  refine J_aload_n 0 rfl dX8_weakest_21 ?_
  refine J_iload_n 3 rfl dX8_weakest_22 ?_
  refine cv_8_153 (cells' := 0) (slots' := 0) dX8_weakest_23 (c_X8_speaker (h := h) hM hn h150) n30 ⟨by decide, by decide⟩ rfl rfl (by decide) (by decide) (Nat.le_of_ble_eq_true rfl) (fun _ _ r2 => ?_) (fun _ _ h => h.elim)
  obtain ⟨rfl, rfl⟩ := r2
  refine J_eq (st' := [.int (oI (mOn m h))]) rfl rfl rfl ?_
  refine J_topeq (nI p) (by rw [hm]; rfl) ?_
  refine J_istore (lv' := [(0, .ref (ka S 30 0)), (1, .int (nI c)), (2, .int (nI w)), (3, .int (nI h)), (4, .int (nI p))]) (by decide) rfl dX8_weakest_26 ?_
  refine J_aload_n 0 rfl dX8_weakest_28 ?_
  refine gf_8_41 n30 dX8_weakest_29 ?_
  refine J_iload 4 rfl dX8_weakest_32 ?_
  refine J_cald p 1 n53 rfl rfl (vp_in_nI (by omega) (by decide)) (nI_toNat (by omega)) dX8_weakest_34 ?_
  refine J_topeq (m.1 53 p) (hM.1 53 p rfl) ?_
  refine cv_8_145 (i := 0) (cells' := 0) (slots' := 0) dX8_weakest_35 (c_X8_rank) ⟨by decide, by decide⟩ rfl rfl (by decide) (by decide) (Nat.le_of_ble_eq_true rfl) (fun _ _ r3 => ?_) (fun _ _ h => h.elim)
  obtain ⟨rfl, rfl⟩ := r3
  refine J_eq (st' := [.int (wghtF (m.1 53 p))]) rfl rfl rfl ?_
  refine J_topeq (mRank m p) rfl ?_
  refine J_aload_n 0 rfl dX8_weakest_38 ?_
  refine gf_8_41 n30 dX8_weakest_39 ?_
  refine J_iload_n 2 rfl dX8_weakest_42 ?_
  refine J_cald w 1 n53 rfl rfl (vp_in_nI (by omega) (by decide)) (nI_toNat (by omega)) dX8_weakest_43 ?_
  refine J_topeq (m.1 53 w) (hM.1 53 w rfl) ?_
  refine cv_8_145 (i := 0) (cells' := 0) (slots' := 0) dX8_weakest_44 (c_X8_rank) ⟨by decide, by decide⟩ rfl rfl (by decide) (by decide) (Nat.le_of_ble_eq_true rfl) (fun _ _ r4 => ?_) (fun _ _ h => h.elim)
  obtain ⟨rfl, rfl⟩ := r4
  refine J_eq (st' := [.int (wghtF (m.1 53 w)), .int (mRank m p)]) rfl rfl rfl ?_
  refine J_topeq (mRank m w) rfl ?_
  refine J_isub dX8_weakest_47 ?_
  refine J_istore (lv' := [(0, .ref (ka S 30 0)), (1, .int (nI c)), (2, .int (nI w)), (3, .int (nI h)), (4, .int (nI p)), (5, .int ((mRank m p) - (mRank m w)))]) (by decide) rfl dX8_weakest_48 ?_
  refine J_iload 5 rfl dX8_weakest_50 ?_
  refine J_if_lt 76 (by decide) dX8_weakest_52 (fun c5 => ?_) (fun c5 => ?_)
  · skip
    refine J_iload 4 rfl dX8_weakest_76 ?_
    refine J_istore_n (lv' := [(0, .ref (ka S 30 0)), (1, .int (nI c)), (2, .int (nI p)), (3, .int (nI h)), (4, .int (nI p)), (5, .int ((mRank m p) - (mRank m w)))]) (by decide) rfl dX8_weakest_78 ?_
    refine J_iinc (v := (nI (h + 1))) (lv' := [(0, .ref (ka S 30 0)), (1, .int (nI c)), (2, .int (nI p)), (3, .int (nI (h + 1))), (4, .int (nI p)), (5, .int ((mRank m p) - (mRank m w)))]) 3 rfl (by exact nI_add h 1) (by decide) rfl dX8_weakest_79 ?_
    refine J_goto 16 (by decide) dX8_weakest_82 ?_
    have e : mWk m w (mOn m h) = p := by
      rw [hm]
      show (if mRank m p < mRank m w ∨ (mRank m p = mRank m w ∧ m.1 58 w < m.1 58 p) then p else w) = p
      grind
    rw [e] at kk
    refine J_sub (lv' := [(0, .ref (ka S 30 0)), (1, .int (nI c)), (2, .int (nI p)), (3, .int (nI (h + 1)))]) [0, 1, 2, 3] rfl ?_
    exact kk
  · skip
    refine J_iload 5 rfl dX8_weakest_55 ?_
    refine J_if_ne 79 (by decide) dX8_weakest_57 (fun c7 => ?_) (fun c7 => ?_)
    · skip
      refine J_iinc (v := (nI (h + 1))) (lv' := [(0, .ref (ka S 30 0)), (1, .int (nI c)), (2, .int (nI w)), (3, .int (nI (h + 1))), (4, .int (nI p)), (5, .int ((mRank m p) - (mRank m w)))]) 3 rfl (by exact nI_add h 1) (by decide) rfl dX8_weakest_79 ?_
      refine J_goto 16 (by decide) dX8_weakest_82 ?_
      have e : mWk m w (mOn m h) = w := by
        rw [hm]
        show (if mRank m p < mRank m w ∨ (mRank m p = mRank m w ∧ m.1 58 w < m.1 58 p) then p else w) = w
        grind
      rw [e] at kk
      refine J_sub (lv' := [(0, .ref (ka S 30 0)), (1, .int (nI c)), (2, .int (nI w)), (3, .int (nI (h + 1)))]) [0, 1, 2, 3] rfl ?_
      exact kk
    · skip
      refine J_aload_n 0 rfl dX8_weakest_60 ?_
      refine gf_8_57 n30 dX8_weakest_61 ?_
      refine J_iload 4 rfl dX8_weakest_64 ?_
      refine J_iald p 0 n58 rfl rfl (vp_in_nI (by omega) (by decide)) (nI_toNat (by omega)) dX8_weakest_66 ?_
      refine J_topeq (m.1 58 p) (hM.1 58 p rfl) ?_
      refine J_aload_n 0 rfl dX8_weakest_67 ?_
      refine gf_8_57 n30 dX8_weakest_68 ?_
      refine J_iload_n 2 rfl dX8_weakest_71 ?_
      refine J_iald w 0 n58 rfl rfl (vp_in_nI (by omega) (by decide)) (nI_toNat (by omega)) dX8_weakest_72 ?_
      refine J_topeq (m.1 58 w) (hM.1 58 w rfl) ?_
      refine J_icmp_le 79 (by decide) dX8_weakest_73 (fun c9 => ?_) (fun c9 => ?_)
      · skip
        refine J_iinc (v := (nI (h + 1))) (lv' := [(0, .ref (ka S 30 0)), (1, .int (nI c)), (2, .int (nI w)), (3, .int (nI (h + 1))), (4, .int (nI p)), (5, .int ((mRank m p) - (mRank m w)))]) 3 rfl (by exact nI_add h 1) (by decide) rfl dX8_weakest_79 ?_
        refine J_goto 16 (by decide) dX8_weakest_82 ?_
        have e : mWk m w (mOn m h) = w := by
          rw [hm]
          show (if mRank m p < mRank m w ∨ (mRank m p = mRank m w ∧ m.1 58 w < m.1 58 p) then p else w) = w
          grind
        rw [e] at kk
        refine J_sub (lv' := [(0, .ref (ka S 30 0)), (1, .int (nI c)), (2, .int (nI w)), (3, .int (nI (h + 1)))]) [0, 1, 2, 3] rfl ?_
        exact kk
      · skip
        refine J_iload 4 rfl dX8_weakest_76 ?_
        refine J_istore_n (lv' := [(0, .ref (ka S 30 0)), (1, .int (nI c)), (2, .int (nI p)), (3, .int (nI h)), (4, .int (nI p)), (5, .int ((mRank m p) - (mRank m w)))]) (by decide) rfl dX8_weakest_78 ?_
        refine J_iinc (v := (nI (h + 1))) (lv' := [(0, .ref (ka S 30 0)), (1, .int (nI c)), (2, .int (nI p)), (3, .int (nI (h + 1))), (4, .int (nI p)), (5, .int ((mRank m p) - (mRank m w)))]) 3 rfl (by exact nI_add h 1) (by decide) rfl dX8_weakest_79 ?_
        refine J_goto 16 (by decide) dX8_weakest_82 ?_
        have e : mWk m w (mOn m h) = p := by
          rw [hm]
          show (if mRank m p < mRank m w ∨ (mRank m p = mRank m w ∧ m.1 58 w < m.1 58 p) then p else w) = p
          grind
        rw [e] at kk
        refine J_sub (lv' := [(0, .ref (ka S 30 0)), (1, .int (nI c)), (2, .int (nI p)), (3, .int (nI (h + 1)))]) [0, 1, 2, 3] rfl ?_
        exact kk

set_option maxRecDepth 20000 in
set_option maxHeartbeats 1000000 in
theorem c_X8_weakest {cy : Nat → ClassId} {S : Nat → Nat → Nat} {I : kI} {L : kL} {R : kRf} {m : Mu} {cd : Int32} {c : Nat} (hM : MR m cd I L) (hn : mN m) {B : Nat} (hI : Inv m B) (hc : c < 150) (h3 : mFree m c = 3) : Con yX8_weakest cX8_weakest 6 (some .int) 2 0 0 cy [.ref (ka S 30 0), .int (nI c)] (wm cy S I L R) (kRet (some (.int (nI (mWeak m c)))) (wm cy S I L R)) kF := by
  have h150 := hI.2.2.1
  obtain ⟨⟨b, hb⟩, ⟨x, hx⟩, h0⟩ := free3 h3
  have lb := (mOn_some hb).1
  have lx := (mOn_some hx).1
  rcases mFirst_01 (m := m) (c := c) with hf | hf
  · obtain ⟨a, ha⟩ := h0 hf
    have la := (mOn_some ha).1
    refine Con_of (by decide +kernel) (Nat.le_of_ble_eq_true rfl) ?_
    refine J_eq (lv' := [(0, .ref (ka S 30 0)), (1, .int (nI c))]) rfl rfl rfl ?_
    refine J_aload_n 0 rfl dX8_weakest_0 ?_
    refine J_aload_n 0 rfl dX8_weakest_1 ?_
    refine J_iload_n 1 rfl dX8_weakest_2 ?_
    refine cv_8_159 (cells' := 0) (slots' := 0) dX8_weakest_3 (c_X8_firstChannel hM (by omega)) n30 ⟨by decide, by decide⟩ rfl rfl (by decide) (by decide) (Nat.le_of_ble_eq_true rfl) (fun _ _ r1 => ?_) (fun _ _ h => h.elim)
    obtain ⟨rfl, rfl⟩ := r1
    refine J_eq (st' := [.int (nI (mFirst m c)), .ref (ka S 30 0)]) rfl rfl rfl ?_
    refine J_topeq 0 (by rw [hf]; rfl) ?_
    refine J_topeq (nI 0) rfl ?_
    refine cv_8_153 (cells' := 0) (slots' := 0) dX8_weakest_6 (c_X8_speaker (h := 0) hM hn h150) n30 ⟨by decide, by decide⟩ rfl rfl (by decide) (by decide) (Nat.le_of_ble_eq_true rfl) (fun _ _ r2 => ?_) (fun _ _ h => h.elim)
    obtain ⟨rfl, rfl⟩ := r2
    refine J_eq (st' := [.int (oI (mOn m 0))]) rfl rfl rfl ?_
    refine J_topeq (nI a) (by rw [ha]; rfl) ?_
    refine J_istore_n (lv' := [(0, .ref (ka S 30 0)), (1, .int (nI c)), (2, .int (nI a))]) (by decide) rfl dX8_weakest_9 ?_
    refine J_aload_n 0 rfl dX8_weakest_10 ?_
    refine J_iload_n 1 rfl dX8_weakest_11 ?_
    refine cv_8_159 (cells' := 0) (slots' := 0) dX8_weakest_12 (c_X8_firstChannel hM (by omega)) n30 ⟨by decide, by decide⟩ rfl rfl (by decide) (by decide) (Nat.le_of_ble_eq_true rfl) (fun _ _ r3 => ?_) (fun _ _ h => h.elim)
    obtain ⟨rfl, rfl⟩ := r3
    refine J_eq (st' := [.int (nI (mFirst m c))]) rfl rfl rfl ?_
    refine J_topeq 0 (by rw [hf]; rfl) ?_
    refine J_istore_n (lv' := [(0, .ref (ka S 30 0)), (1, .int (nI c)), (2, .int (nI a)), (3, .int 0)]) (by decide) rfl dX8_weakest_15 ?_
    refine J_eq (lv' := [(0, .ref (ka S 30 0)), (1, .int (nI c)), (2, .int (nI a)), (3, .int (nI 0))]) rfl rfl rfl ?_
    refine ls_X8_weakest (h := 0) (w := a) hM hn hI (by decide) ha la ?_
    rw [ha, mWk_self]
    have hw1 : a < mC m := la
    refine ls_X8_weakest (h := 1) (w := a) hM hn hI (by decide) hb hw1 ?_
    have hw2 : (mWk m a (mOn m 1)) < mC m := by rw [hb]; unfold mWk; show (if _ then b else a) < _; split <;> assumption
    refine ls_X8_weakest (h := 2) (w := (mWk m a (mOn m 1))) hM hn hI (by decide) hx hw2 ?_
    refine J_iload_n 3 rfl dX8_weakest_16 ?_
    refine J_iconst (v := 3) (by decide) dX8_weakest_17 ?_
    refine J_icmp_ge 85 (by decide) dX8_weakest_18 (fun c1 => ?_) (fun c1 => ?_)
    rotate_left
    · exfalso
      have Nc1 : ¬ (3 ≤ 3) := fun q => c1 ((nI_leI (a := 3) (b := 3) (by omega) (by omega)).mpr q)
      omega
    have Nc1 : 3 ≤ 3 := (nI_leI (a := 3) (b := 3) (by omega) (by omega)).mp c1
    refine J_iload_n 2 rfl dX8_weakest_85 ?_
    exact J_ireturn rfl (by first | rfl | assumption | simp [kb_nar]) dX8_weakest_86 (⟨by unfold mWeak; rw [if_pos hf, ha]; rfl, rfl⟩) (by omega) (by omega)
  · skip
    refine Con_of (by decide +kernel) (Nat.le_of_ble_eq_true rfl) ?_
    refine J_eq (lv' := [(0, .ref (ka S 30 0)), (1, .int (nI c))]) rfl rfl rfl ?_
    refine J_aload_n 0 rfl dX8_weakest_0 ?_
    refine J_aload_n 0 rfl dX8_weakest_1 ?_
    refine J_iload_n 1 rfl dX8_weakest_2 ?_
    refine cv_8_159 (cells' := 0) (slots' := 0) dX8_weakest_3 (c_X8_firstChannel hM (by omega)) n30 ⟨by decide, by decide⟩ rfl rfl (by decide) (by decide) (Nat.le_of_ble_eq_true rfl) (fun _ _ r1 => ?_) (fun _ _ h => h.elim)
    obtain ⟨rfl, rfl⟩ := r1
    refine J_eq (st' := [.int (nI (mFirst m c)), .ref (ka S 30 0)]) rfl rfl rfl ?_
    refine J_topeq 1 (by rw [hf]; rfl) ?_
    refine J_topeq (nI 1) rfl ?_
    refine cv_8_153 (cells' := 0) (slots' := 0) dX8_weakest_6 (c_X8_speaker (h := 1) hM hn h150) n30 ⟨by decide, by decide⟩ rfl rfl (by decide) (by decide) (Nat.le_of_ble_eq_true rfl) (fun _ _ r2 => ?_) (fun _ _ h => h.elim)
    obtain ⟨rfl, rfl⟩ := r2
    refine J_eq (st' := [.int (oI (mOn m 1))]) rfl rfl rfl ?_
    refine J_topeq (nI b) (by rw [hb]; rfl) ?_
    refine J_istore_n (lv' := [(0, .ref (ka S 30 0)), (1, .int (nI c)), (2, .int (nI b))]) (by decide) rfl dX8_weakest_9 ?_
    refine J_aload_n 0 rfl dX8_weakest_10 ?_
    refine J_iload_n 1 rfl dX8_weakest_11 ?_
    refine cv_8_159 (cells' := 0) (slots' := 0) dX8_weakest_12 (c_X8_firstChannel hM (by omega)) n30 ⟨by decide, by decide⟩ rfl rfl (by decide) (by decide) (Nat.le_of_ble_eq_true rfl) (fun _ _ r3 => ?_) (fun _ _ h => h.elim)
    obtain ⟨rfl, rfl⟩ := r3
    refine J_eq (st' := [.int (nI (mFirst m c))]) rfl rfl rfl ?_
    refine J_topeq 1 (by rw [hf]; rfl) ?_
    refine J_istore_n (lv' := [(0, .ref (ka S 30 0)), (1, .int (nI c)), (2, .int (nI b)), (3, .int 1)]) (by decide) rfl dX8_weakest_15 ?_
    refine J_eq (lv' := [(0, .ref (ka S 30 0)), (1, .int (nI c)), (2, .int (nI b)), (3, .int (nI 1))]) rfl rfl rfl ?_
    refine ls_X8_weakest (h := 1) (w := b) hM hn hI (by decide) hb lb ?_
    rw [hb, mWk_self]
    have hw2 : b < mC m := lb
    refine ls_X8_weakest (h := 2) (w := b) hM hn hI (by decide) hx hw2 ?_
    refine J_iload_n 3 rfl dX8_weakest_16 ?_
    refine J_iconst (v := 3) (by decide) dX8_weakest_17 ?_
    refine J_icmp_ge 85 (by decide) dX8_weakest_18 (fun c1 => ?_) (fun c1 => ?_)
    rotate_left
    · exfalso
      have Nc1 : ¬ (3 ≤ 3) := fun q => c1 ((nI_leI (a := 3) (b := 3) (by omega) (by omega)).mpr q)
      omega
    have Nc1 : 3 ≤ 3 := (nI_leI (a := 3) (b := 3) (by omega) (by omega)).mp c1
    refine J_iload_n 2 rfl dX8_weakest_85 ?_
    exact J_ireturn rfl (by first | rfl | assumption | simp [kb_nar]) dX8_weakest_86 (⟨by unfold mWeak; rw [if_neg (by rw [hf]; decide), hb]; rfl, rfl⟩) (by omega) (by omega)

set_option maxRecDepth 20000 in
set_option maxHeartbeats 1000000 in
theorem lt_X8_beginsNow {cy : Nat → ClassId} {S : Nat → Nat → Nat} {I : kI} {L : kL} {R : kRf} {m : Mu} {cd v : Int32} {c : Nat} (hM : MR m cd I L) (hn : mN m) {B : Nat} (hI : Inv m B) (hB : B < 2 ^ 30) (hc : c < mC m) (hf : mFree m c ≠ 3) : J yX8_beginsNow.cls yX8_beginsNow.name cX8_beginsNow 4 none 4 0 0 cy (fun r w' => r = none ∧ MX cy S R (mTake m c v) cd w') kF 84 [(0, .ref (ka S 30 0)), (1, .int (nI c)), (2, .int v)] [] (wm cy S I L R) 0 0 := by
  have h150 := hI.2.2.1
  have h10 := hI.1
  have hg0 := inv_g hI hB
  obtain ⟨⟨f, t, k1, k2, k3, k4, -⟩, -⟩ := hI.2.2.2.1 c hc
  have hv51 : vp_in (m.1 51 c) 10 := by rw [k1]; exact vp_in_nI (by omega) (by decide)
  refine J_aload_n 0 rfl dX8_beginsNow_84 ?_
  refine gf_8_51 n30 dX8_beginsNow_85 ?_
  refine J_iload_n 1 rfl dX8_beginsNow_88 ?_
  refine J_aload_n 0 rfl dX8_beginsNow_89 ?_
  refine J_iload_n 1 rfl dX8_beginsNow_90 ?_
  refine cv_8_166 (cells' := 0) (slots' := 0) dX8_beginsNow_91 (c_X8_freeChannel hM hn h150 (by omega)) n30 ⟨by decide, by decide⟩ rfl rfl (by decide) (by decide) (Nat.le_of_ble_eq_true rfl) (fun _ _ r1 => ?_) (fun _ _ h => h.elim)
  obtain ⟨rfl, rfl⟩ := r1
  refine J_eq (st' := [.int (if mFree m c = 3 then -1 else nI (mFree m c)), .int (nI c), .ref (ka S 56 0)]) rfl rfl rfl ?_
  refine J_topeq (nI (mFree m c)) (by exact if_neg hf) ?_
  refine J_iast (I' := ku I 56 0 c (nI (mFree m c))) (L' := L) (R' := R) c 0 n56 rfl rfl (vp_in_nI (by omega) (by decide)) (nI_toNat (by omega)) (by rw [ku_own]; rfl) (fun k' i' h => ⟨ku_row _ _ h, rfl, rfl⟩) dX8_beginsNow_94 ?_
  have hM2 := MR_ms (k := 56) (j := c) (v := (nI (mFree m c))) hM rfl
  refine J_aload_n 0 rfl dX8_beginsNow_95 ?_
  refine gf_8_54 n30 dX8_beginsNow_96 ?_
  refine J_iload_n 1 rfl dX8_beginsNow_99 ?_
  refine J_iload_n 2 rfl dX8_beginsNow_100 ?_
  refine J_iast (I' := ku (ku I 56 0 c (nI (mFree m c))) 57 0 c v) (L' := L) (R' := R) c 0 n57 rfl rfl (vp_in_nI (by omega) (by decide)) (nI_toNat (by omega)) (by rw [ku_own]; rfl) (fun k' i' h => ⟨ku_row _ _ h, rfl, rfl⟩) dX8_beginsNow_101 ?_
  have hM3 := MR_ms (k := 57) (j := c) (v := v) hM2 rfl
  refine J_aload_n 0 rfl dX8_beginsNow_102 ?_
  refine gf_8_57 n30 dX8_beginsNow_103 ?_
  refine J_iload_n 1 rfl dX8_beginsNow_106 ?_
  refine J_iald c 0 n58 rfl rfl (vp_in_nI (by omega) (by decide)) (nI_toNat (by omega)) dX8_beginsNow_107 ?_
  refine J_topeq ((ms (ms m 56 c (nI (mFree m c))) 57 c v).1 58 c) (hM3.1 58 c rfl) ?_
  refine J_if_ne 141 (by decide) dX8_beginsNow_108 (fun c4 => ?_) (fun c4 => ?_)
  · skip
    refine J_aload_n 0 rfl dX8_beginsNow_141 ?_
    refine J_dup rfl dX8_beginsNow_142 ?_
    refine gf_8_178 n30 dX8_beginsNow_143 ?_
    refine J_topeq ((ms (ms m 56 c (nI (mFree m c))) 57 c v).1 30 21) (hM3.1 30 21 rfl) ?_
    refine J_iconst (v := 1) (by decide) dX8_beginsNow_146 ?_
    refine J_iadd dX8_beginsNow_147 ?_
    refine pf_8_178 n30 dX8_beginsNow_148 ?_
    have hM5 := MR_ms (k := 30) (j := 21) (v := (((ms (ms m 56 c (nI (mFree m c))) 57 c v).1 30 21) + 1)) hM3 rfl
    refine J_aload_n 0 rfl dX8_beginsNow_151 ?_
    refine gf_8_57 n30 dX8_beginsNow_152 ?_
    refine J_iload_n 1 rfl dX8_beginsNow_155 ?_
    refine J_aload_n 0 rfl dX8_beginsNow_156 ?_
    refine gf_8_178 n30 dX8_beginsNow_157 ?_
    refine J_topeq ((ms (ms (ms m 56 c (nI (mFree m c))) 57 c v) 30 21 (((ms (ms m 56 c (nI (mFree m c))) 57 c v).1 30 21) + 1)).1 30 21) (hM5.1 30 21 rfl) ?_
    refine J_iast (I' := ku (ku (ku (ku I 56 0 c (nI (mFree m c))) 57 0 c v) 30 0 21 (((ms (ms m 56 c (nI (mFree m c))) 57 c v).1 30 21) + 1)) 58 0 c ((ms (ms (ms m 56 c (nI (mFree m c))) 57 c v) 30 21 (((ms (ms m 56 c (nI (mFree m c))) 57 c v).1 30 21) + 1)).1 30 21)) (L' := L) (R' := R) c 0 n58 rfl rfl (vp_in_nI (by omega) (by decide)) (nI_toNat (by omega)) (by rw [ku_own]; rfl) (fun k' i' h => ⟨ku_row _ _ h, rfl, rfl⟩) dX8_beginsNow_160 ?_
    have hM6 := MR_ms (k := 58) (j := c) (v := ((ms (ms (ms m 56 c (nI (mFree m c))) 57 c v) 30 21 (((ms (ms m 56 c (nI (mFree m c))) 57 c v).1 30 21) + 1)).1 30 21)) hM5 rfl
    refine J_aload_n 0 rfl dX8_beginsNow_161 ?_
    refine gf_8_48 n30 dX8_beginsNow_162 ?_
    refine J_iload_n 1 rfl dX8_beginsNow_165 ?_
    refine J_bipush (v := 115) (by decide) dX8_beginsNow_166 ?_
    refine J_cast (I' := ku (ku (ku (ku (ku I 56 0 c (nI (mFree m c))) 57 0 c v) 30 0 21 (((ms (ms m 56 c (nI (mFree m c))) 57 c v).1 30 21) + 1)) 58 0 c ((ms (ms (ms m 56 c (nI (mFree m c))) 57 c v) 30 21 (((ms (ms m 56 c (nI (mFree m c))) 57 c v).1 30 21) + 1)).1 30 21)) 55 0 c 115) (L' := L) (R' := R) c 1 n55 rfl rfl (vp_in_nI (by omega) (by decide)) (nI_toNat (by omega)) (by rw [ku_own]; rfl) (fun k' i' h => ⟨ku_row _ _ h, rfl, rfl⟩) dX8_beginsNow_168 ?_
    have hM7 := MR_ms (k := 55) (j := c) (v := 115) hM6 rfl
    refine J_aload_n 0 rfl dX8_beginsNow_169 ?_
    refine gf_8_23 n30 dX8_beginsNow_170 ?_
    refine J_aload_n 0 rfl dX8_beginsNow_173 ?_
    refine gf_8_35 n30 dX8_beginsNow_174 ?_
    refine J_iload_n 1 rfl dX8_beginsNow_177 ?_
    refine J_iald c 0 n51 rfl rfl (vp_in_nI (by omega) (by decide)) (nI_toNat (by omega)) dX8_beginsNow_178 ?_
    refine J_topeq (m.1 51 c) ((hM7.1 51 c rfl).trans (by rfl)) ?_
    refine J_aload_n 0 rfl dX8_beginsNow_179 ?_
    refine gf_8_85 n30 dX8_beginsNow_180 ?_
    refine J_topeq ((ms (ms (ms (ms (ms m 56 c (nI (mFree m c))) 57 c v) 30 21 (((ms (ms m 56 c (nI (mFree m c))) 57 c v).1 30 21) + 1)) 58 c ((ms (ms (ms m 56 c (nI (mFree m c))) 57 c v) 30 21 (((ms (ms m 56 c (nI (mFree m c))) 57 c v).1 30 21) + 1)).1 30 21)) 55 c 115).1 30 26) (hM7.1 30 26 rfl) ?_
    refine J_iast (I' := ku (ku (ku (ku (ku (ku I 56 0 c (nI (mFree m c))) 57 0 c v) 30 0 21 (((ms (ms m 56 c (nI (mFree m c))) 57 c v).1 30 21) + 1)) 58 0 c ((ms (ms (ms m 56 c (nI (mFree m c))) 57 c v) 30 21 (((ms (ms m 56 c (nI (mFree m c))) 57 c v).1 30 21) + 1)).1 30 21)) 55 0 c 115) 45 0 ((m.1 51 c).toNatClampNeg) ((ms (ms (ms (ms (ms m 56 c (nI (mFree m c))) 57 c v) 30 21 (((ms (ms m 56 c (nI (mFree m c))) 57 c v).1 30 21) + 1)) 58 c ((ms (ms (ms m 56 c (nI (mFree m c))) 57 c v) 30 21 (((ms (ms m 56 c (nI (mFree m c))) 57 c v).1 30 21) + 1)).1 30 21)) 55 c 115).1 30 26)) (L' := L) (R' := R) ((m.1 51 c).toNatClampNeg) 0 n45 rfl rfl (by assumption) rfl (by rw [ku_own]; rfl) (fun k' i' h => ⟨ku_row _ _ h, rfl, rfl⟩) dX8_beginsNow_183 ?_
    have hM8 := MR_ms (k := 45) (j := (m.1 51 c).toNatClampNeg) (v := ((ms (ms (ms (ms (ms m 56 c (nI (mFree m c))) 57 c v) 30 21 (((ms (ms m 56 c (nI (mFree m c))) 57 c v).1 30 21) + 1)) 58 c ((ms (ms (ms m 56 c (nI (mFree m c))) 57 c v) 30 21 (((ms (ms m 56 c (nI (mFree m c))) 57 c v).1 30 21) + 1)).1 30 21)) 55 c 115).1 30 26)) hM7 rfl
    refine J_aload_n 0 rfl dX8_beginsNow_184 ?_
    refine J_bipush (v := 98) (by decide) dX8_beginsNow_185 ?_
    refine J_iload_n 1 rfl dX8_beginsNow_187 ?_
    refine cv_8_162 (cells' := 0) (slots' := 0) dX8_beginsNow_188 (c_X8_logs hM8 hg0 (by decide)) n30 ⟨by decide, by decide⟩ rfl rfl (by decide) (by decide) (Nat.le_of_ble_eq_true rfl) (fun _ _ r10 => ?_) (fun _ _ h => h.elim)
    obtain ⟨rfl, I9, L9, rfl, hM9⟩ := r10
    refine J_eq (st' := []) rfl rfl rfl ?_
    exact J_return rfl dX8_beginsNow_191 (⟨rfl, _, _, rfl, by first | (rw [take_R, firstB_p (a := (ms (ms m 56 c (nI (mFree m c))) 57 c v)) (by assumption)]; exact hM9) | (rw [take_R, firstB_n (a := (ms (ms m 56 c (nI (mFree m c))) 57 c v)) (by assumption)]; exact hM9)⟩) (by omega) (by omega)
  · skip
    refine J_aload_n 0 rfl dX8_beginsNow_111 ?_
    refine J_dup rfl dX8_beginsNow_112 ?_
    refine gf_8_172 n30 dX8_beginsNow_113 ?_
    refine J_topeq ((ms (ms m 56 c (nI (mFree m c))) 57 c v).1 30 22) (hM3.1 30 22 rfl) ?_
    refine J_iconst (v := 1) (by decide) dX8_beginsNow_116 ?_
    refine J_iadd dX8_beginsNow_117 ?_
    refine pf_8_172 n30 dX8_beginsNow_118 ?_
    have hM11 := MR_ms (k := 30) (j := 22) (v := (((ms (ms m 56 c (nI (mFree m c))) 57 c v).1 30 22) + 1)) hM3 rfl
    refine J_aload_n 0 rfl dX8_beginsNow_121 ?_
    refine J_dup rfl dX8_beginsNow_122 ?_
    refine gf_8_175 n30 dX8_beginsNow_123 ?_
    refine J_topeq ((ms (ms (ms m 56 c (nI (mFree m c))) 57 c v) 30 22 (((ms (ms m 56 c (nI (mFree m c))) 57 c v).1 30 22) + 1)).1 30 23) (hM11.1 30 23 rfl) ?_
    refine J_aload_n 0 rfl dX8_beginsNow_126 ?_
    refine gf_8_85 n30 dX8_beginsNow_127 ?_
    refine J_topeq ((ms (ms (ms m 56 c (nI (mFree m c))) 57 c v) 30 22 (((ms (ms m 56 c (nI (mFree m c))) 57 c v).1 30 22) + 1)).1 30 26) (hM11.1 30 26 rfl) ?_
    refine J_aload_n 0 rfl dX8_beginsNow_130 ?_
    refine gf_8_63 n30 dX8_beginsNow_131 ?_
    refine J_iload_n 1 rfl dX8_beginsNow_134 ?_
    refine J_iald c 0 n60 rfl rfl (vp_in_nI (by omega) (by decide)) (nI_toNat (by omega)) dX8_beginsNow_135 ?_
    refine J_topeq ((ms (ms (ms m 56 c (nI (mFree m c))) 57 c v) 30 22 (((ms (ms m 56 c (nI (mFree m c))) 57 c v).1 30 22) + 1)).1 60 c) (hM11.1 60 c rfl) ?_
    refine J_isub dX8_beginsNow_136 ?_
    refine J_iadd dX8_beginsNow_137 ?_
    refine pf_8_175 n30 dX8_beginsNow_138 ?_
    have hM12 := MR_ms (k := 30) (j := 23) (v := (((ms (ms (ms m 56 c (nI (mFree m c))) 57 c v) 30 22 (((ms (ms m 56 c (nI (mFree m c))) 57 c v).1 30 22) + 1)).1 30 23) + (((ms (ms (ms m 56 c (nI (mFree m c))) 57 c v) 30 22 (((ms (ms m 56 c (nI (mFree m c))) 57 c v).1 30 22) + 1)).1 30 26) - ((ms (ms (ms m 56 c (nI (mFree m c))) 57 c v) 30 22 (((ms (ms m 56 c (nI (mFree m c))) 57 c v).1 30 22) + 1)).1 60 c)))) hM11 rfl
    refine J_aload_n 0 rfl dX8_beginsNow_141 ?_
    refine J_dup rfl dX8_beginsNow_142 ?_
    refine gf_8_178 n30 dX8_beginsNow_143 ?_
    refine J_topeq ((ms (ms (ms (ms m 56 c (nI (mFree m c))) 57 c v) 30 22 (((ms (ms m 56 c (nI (mFree m c))) 57 c v).1 30 22) + 1)) 30 23 (((ms (ms (ms m 56 c (nI (mFree m c))) 57 c v) 30 22 (((ms (ms m 56 c (nI (mFree m c))) 57 c v).1 30 22) + 1)).1 30 23) + (((ms (ms (ms m 56 c (nI (mFree m c))) 57 c v) 30 22 (((ms (ms m 56 c (nI (mFree m c))) 57 c v).1 30 22) + 1)).1 30 26) - ((ms (ms (ms m 56 c (nI (mFree m c))) 57 c v) 30 22 (((ms (ms m 56 c (nI (mFree m c))) 57 c v).1 30 22) + 1)).1 60 c)))).1 30 21) (hM12.1 30 21 rfl) ?_
    refine J_iconst (v := 1) (by decide) dX8_beginsNow_146 ?_
    refine J_iadd dX8_beginsNow_147 ?_
    refine pf_8_178 n30 dX8_beginsNow_148 ?_
    have hM13 := MR_ms (k := 30) (j := 21) (v := (((ms (ms (ms (ms m 56 c (nI (mFree m c))) 57 c v) 30 22 (((ms (ms m 56 c (nI (mFree m c))) 57 c v).1 30 22) + 1)) 30 23 (((ms (ms (ms m 56 c (nI (mFree m c))) 57 c v) 30 22 (((ms (ms m 56 c (nI (mFree m c))) 57 c v).1 30 22) + 1)).1 30 23) + (((ms (ms (ms m 56 c (nI (mFree m c))) 57 c v) 30 22 (((ms (ms m 56 c (nI (mFree m c))) 57 c v).1 30 22) + 1)).1 30 26) - ((ms (ms (ms m 56 c (nI (mFree m c))) 57 c v) 30 22 (((ms (ms m 56 c (nI (mFree m c))) 57 c v).1 30 22) + 1)).1 60 c)))).1 30 21) + 1)) hM12 rfl
    refine J_aload_n 0 rfl dX8_beginsNow_151 ?_
    refine gf_8_57 n30 dX8_beginsNow_152 ?_
    refine J_iload_n 1 rfl dX8_beginsNow_155 ?_
    refine J_aload_n 0 rfl dX8_beginsNow_156 ?_
    refine gf_8_178 n30 dX8_beginsNow_157 ?_
    refine J_topeq ((ms (ms (ms (ms (ms m 56 c (nI (mFree m c))) 57 c v) 30 22 (((ms (ms m 56 c (nI (mFree m c))) 57 c v).1 30 22) + 1)) 30 23 (((ms (ms (ms m 56 c (nI (mFree m c))) 57 c v) 30 22 (((ms (ms m 56 c (nI (mFree m c))) 57 c v).1 30 22) + 1)).1 30 23) + (((ms (ms (ms m 56 c (nI (mFree m c))) 57 c v) 30 22 (((ms (ms m 56 c (nI (mFree m c))) 57 c v).1 30 22) + 1)).1 30 26) - ((ms (ms (ms m 56 c (nI (mFree m c))) 57 c v) 30 22 (((ms (ms m 56 c (nI (mFree m c))) 57 c v).1 30 22) + 1)).1 60 c)))) 30 21 (((ms (ms (ms (ms m 56 c (nI (mFree m c))) 57 c v) 30 22 (((ms (ms m 56 c (nI (mFree m c))) 57 c v).1 30 22) + 1)) 30 23 (((ms (ms (ms m 56 c (nI (mFree m c))) 57 c v) 30 22 (((ms (ms m 56 c (nI (mFree m c))) 57 c v).1 30 22) + 1)).1 30 23) + (((ms (ms (ms m 56 c (nI (mFree m c))) 57 c v) 30 22 (((ms (ms m 56 c (nI (mFree m c))) 57 c v).1 30 22) + 1)).1 30 26) - ((ms (ms (ms m 56 c (nI (mFree m c))) 57 c v) 30 22 (((ms (ms m 56 c (nI (mFree m c))) 57 c v).1 30 22) + 1)).1 60 c)))).1 30 21) + 1)).1 30 21) (hM13.1 30 21 rfl) ?_
    refine J_iast (I' := ku (ku (ku (ku (ku (ku I 56 0 c (nI (mFree m c))) 57 0 c v) 30 0 22 (((ms (ms m 56 c (nI (mFree m c))) 57 c v).1 30 22) + 1)) 30 0 23 (((ms (ms (ms m 56 c (nI (mFree m c))) 57 c v) 30 22 (((ms (ms m 56 c (nI (mFree m c))) 57 c v).1 30 22) + 1)).1 30 23) + (((ms (ms (ms m 56 c (nI (mFree m c))) 57 c v) 30 22 (((ms (ms m 56 c (nI (mFree m c))) 57 c v).1 30 22) + 1)).1 30 26) - ((ms (ms (ms m 56 c (nI (mFree m c))) 57 c v) 30 22 (((ms (ms m 56 c (nI (mFree m c))) 57 c v).1 30 22) + 1)).1 60 c)))) 30 0 21 (((ms (ms (ms (ms m 56 c (nI (mFree m c))) 57 c v) 30 22 (((ms (ms m 56 c (nI (mFree m c))) 57 c v).1 30 22) + 1)) 30 23 (((ms (ms (ms m 56 c (nI (mFree m c))) 57 c v) 30 22 (((ms (ms m 56 c (nI (mFree m c))) 57 c v).1 30 22) + 1)).1 30 23) + (((ms (ms (ms m 56 c (nI (mFree m c))) 57 c v) 30 22 (((ms (ms m 56 c (nI (mFree m c))) 57 c v).1 30 22) + 1)).1 30 26) - ((ms (ms (ms m 56 c (nI (mFree m c))) 57 c v) 30 22 (((ms (ms m 56 c (nI (mFree m c))) 57 c v).1 30 22) + 1)).1 60 c)))).1 30 21) + 1)) 58 0 c ((ms (ms (ms (ms (ms m 56 c (nI (mFree m c))) 57 c v) 30 22 (((ms (ms m 56 c (nI (mFree m c))) 57 c v).1 30 22) + 1)) 30 23 (((ms (ms (ms m 56 c (nI (mFree m c))) 57 c v) 30 22 (((ms (ms m 56 c (nI (mFree m c))) 57 c v).1 30 22) + 1)).1 30 23) + (((ms (ms (ms m 56 c (nI (mFree m c))) 57 c v) 30 22 (((ms (ms m 56 c (nI (mFree m c))) 57 c v).1 30 22) + 1)).1 30 26) - ((ms (ms (ms m 56 c (nI (mFree m c))) 57 c v) 30 22 (((ms (ms m 56 c (nI (mFree m c))) 57 c v).1 30 22) + 1)).1 60 c)))) 30 21 (((ms (ms (ms (ms m 56 c (nI (mFree m c))) 57 c v) 30 22 (((ms (ms m 56 c (nI (mFree m c))) 57 c v).1 30 22) + 1)) 30 23 (((ms (ms (ms m 56 c (nI (mFree m c))) 57 c v) 30 22 (((ms (ms m 56 c (nI (mFree m c))) 57 c v).1 30 22) + 1)).1 30 23) + (((ms (ms (ms m 56 c (nI (mFree m c))) 57 c v) 30 22 (((ms (ms m 56 c (nI (mFree m c))) 57 c v).1 30 22) + 1)).1 30 26) - ((ms (ms (ms m 56 c (nI (mFree m c))) 57 c v) 30 22 (((ms (ms m 56 c (nI (mFree m c))) 57 c v).1 30 22) + 1)).1 60 c)))).1 30 21) + 1)).1 30 21)) (L' := L) (R' := R) c 0 n58 rfl rfl (vp_in_nI (by omega) (by decide)) (nI_toNat (by omega)) (by rw [ku_own]; rfl) (fun k' i' h => ⟨ku_row _ _ h, rfl, rfl⟩) dX8_beginsNow_160 ?_
    have hM14 := MR_ms (k := 58) (j := c) (v := ((ms (ms (ms (ms (ms m 56 c (nI (mFree m c))) 57 c v) 30 22 (((ms (ms m 56 c (nI (mFree m c))) 57 c v).1 30 22) + 1)) 30 23 (((ms (ms (ms m 56 c (nI (mFree m c))) 57 c v) 30 22 (((ms (ms m 56 c (nI (mFree m c))) 57 c v).1 30 22) + 1)).1 30 23) + (((ms (ms (ms m 56 c (nI (mFree m c))) 57 c v) 30 22 (((ms (ms m 56 c (nI (mFree m c))) 57 c v).1 30 22) + 1)).1 30 26) - ((ms (ms (ms m 56 c (nI (mFree m c))) 57 c v) 30 22 (((ms (ms m 56 c (nI (mFree m c))) 57 c v).1 30 22) + 1)).1 60 c)))) 30 21 (((ms (ms (ms (ms m 56 c (nI (mFree m c))) 57 c v) 30 22 (((ms (ms m 56 c (nI (mFree m c))) 57 c v).1 30 22) + 1)) 30 23 (((ms (ms (ms m 56 c (nI (mFree m c))) 57 c v) 30 22 (((ms (ms m 56 c (nI (mFree m c))) 57 c v).1 30 22) + 1)).1 30 23) + (((ms (ms (ms m 56 c (nI (mFree m c))) 57 c v) 30 22 (((ms (ms m 56 c (nI (mFree m c))) 57 c v).1 30 22) + 1)).1 30 26) - ((ms (ms (ms m 56 c (nI (mFree m c))) 57 c v) 30 22 (((ms (ms m 56 c (nI (mFree m c))) 57 c v).1 30 22) + 1)).1 60 c)))).1 30 21) + 1)).1 30 21)) hM13 rfl
    refine J_aload_n 0 rfl dX8_beginsNow_161 ?_
    refine gf_8_48 n30 dX8_beginsNow_162 ?_
    refine J_iload_n 1 rfl dX8_beginsNow_165 ?_
    refine J_bipush (v := 115) (by decide) dX8_beginsNow_166 ?_
    refine J_cast (I' := ku (ku (ku (ku (ku (ku (ku I 56 0 c (nI (mFree m c))) 57 0 c v) 30 0 22 (((ms (ms m 56 c (nI (mFree m c))) 57 c v).1 30 22) + 1)) 30 0 23 (((ms (ms (ms m 56 c (nI (mFree m c))) 57 c v) 30 22 (((ms (ms m 56 c (nI (mFree m c))) 57 c v).1 30 22) + 1)).1 30 23) + (((ms (ms (ms m 56 c (nI (mFree m c))) 57 c v) 30 22 (((ms (ms m 56 c (nI (mFree m c))) 57 c v).1 30 22) + 1)).1 30 26) - ((ms (ms (ms m 56 c (nI (mFree m c))) 57 c v) 30 22 (((ms (ms m 56 c (nI (mFree m c))) 57 c v).1 30 22) + 1)).1 60 c)))) 30 0 21 (((ms (ms (ms (ms m 56 c (nI (mFree m c))) 57 c v) 30 22 (((ms (ms m 56 c (nI (mFree m c))) 57 c v).1 30 22) + 1)) 30 23 (((ms (ms (ms m 56 c (nI (mFree m c))) 57 c v) 30 22 (((ms (ms m 56 c (nI (mFree m c))) 57 c v).1 30 22) + 1)).1 30 23) + (((ms (ms (ms m 56 c (nI (mFree m c))) 57 c v) 30 22 (((ms (ms m 56 c (nI (mFree m c))) 57 c v).1 30 22) + 1)).1 30 26) - ((ms (ms (ms m 56 c (nI (mFree m c))) 57 c v) 30 22 (((ms (ms m 56 c (nI (mFree m c))) 57 c v).1 30 22) + 1)).1 60 c)))).1 30 21) + 1)) 58 0 c ((ms (ms (ms (ms (ms m 56 c (nI (mFree m c))) 57 c v) 30 22 (((ms (ms m 56 c (nI (mFree m c))) 57 c v).1 30 22) + 1)) 30 23 (((ms (ms (ms m 56 c (nI (mFree m c))) 57 c v) 30 22 (((ms (ms m 56 c (nI (mFree m c))) 57 c v).1 30 22) + 1)).1 30 23) + (((ms (ms (ms m 56 c (nI (mFree m c))) 57 c v) 30 22 (((ms (ms m 56 c (nI (mFree m c))) 57 c v).1 30 22) + 1)).1 30 26) - ((ms (ms (ms m 56 c (nI (mFree m c))) 57 c v) 30 22 (((ms (ms m 56 c (nI (mFree m c))) 57 c v).1 30 22) + 1)).1 60 c)))) 30 21 (((ms (ms (ms (ms m 56 c (nI (mFree m c))) 57 c v) 30 22 (((ms (ms m 56 c (nI (mFree m c))) 57 c v).1 30 22) + 1)) 30 23 (((ms (ms (ms m 56 c (nI (mFree m c))) 57 c v) 30 22 (((ms (ms m 56 c (nI (mFree m c))) 57 c v).1 30 22) + 1)).1 30 23) + (((ms (ms (ms m 56 c (nI (mFree m c))) 57 c v) 30 22 (((ms (ms m 56 c (nI (mFree m c))) 57 c v).1 30 22) + 1)).1 30 26) - ((ms (ms (ms m 56 c (nI (mFree m c))) 57 c v) 30 22 (((ms (ms m 56 c (nI (mFree m c))) 57 c v).1 30 22) + 1)).1 60 c)))).1 30 21) + 1)).1 30 21)) 55 0 c 115) (L' := L) (R' := R) c 1 n55 rfl rfl (vp_in_nI (by omega) (by decide)) (nI_toNat (by omega)) (by rw [ku_own]; rfl) (fun k' i' h => ⟨ku_row _ _ h, rfl, rfl⟩) dX8_beginsNow_168 ?_
    have hM15 := MR_ms (k := 55) (j := c) (v := 115) hM14 rfl
    refine J_aload_n 0 rfl dX8_beginsNow_169 ?_
    refine gf_8_23 n30 dX8_beginsNow_170 ?_
    refine J_aload_n 0 rfl dX8_beginsNow_173 ?_
    refine gf_8_35 n30 dX8_beginsNow_174 ?_
    refine J_iload_n 1 rfl dX8_beginsNow_177 ?_
    refine J_iald c 0 n51 rfl rfl (vp_in_nI (by omega) (by decide)) (nI_toNat (by omega)) dX8_beginsNow_178 ?_
    refine J_topeq (m.1 51 c) ((hM15.1 51 c rfl).trans (by rfl)) ?_
    refine J_aload_n 0 rfl dX8_beginsNow_179 ?_
    refine gf_8_85 n30 dX8_beginsNow_180 ?_
    refine J_topeq ((ms (ms (ms (ms (ms (ms (ms m 56 c (nI (mFree m c))) 57 c v) 30 22 (((ms (ms m 56 c (nI (mFree m c))) 57 c v).1 30 22) + 1)) 30 23 (((ms (ms (ms m 56 c (nI (mFree m c))) 57 c v) 30 22 (((ms (ms m 56 c (nI (mFree m c))) 57 c v).1 30 22) + 1)).1 30 23) + (((ms (ms (ms m 56 c (nI (mFree m c))) 57 c v) 30 22 (((ms (ms m 56 c (nI (mFree m c))) 57 c v).1 30 22) + 1)).1 30 26) - ((ms (ms (ms m 56 c (nI (mFree m c))) 57 c v) 30 22 (((ms (ms m 56 c (nI (mFree m c))) 57 c v).1 30 22) + 1)).1 60 c)))) 30 21 (((ms (ms (ms (ms m 56 c (nI (mFree m c))) 57 c v) 30 22 (((ms (ms m 56 c (nI (mFree m c))) 57 c v).1 30 22) + 1)) 30 23 (((ms (ms (ms m 56 c (nI (mFree m c))) 57 c v) 30 22 (((ms (ms m 56 c (nI (mFree m c))) 57 c v).1 30 22) + 1)).1 30 23) + (((ms (ms (ms m 56 c (nI (mFree m c))) 57 c v) 30 22 (((ms (ms m 56 c (nI (mFree m c))) 57 c v).1 30 22) + 1)).1 30 26) - ((ms (ms (ms m 56 c (nI (mFree m c))) 57 c v) 30 22 (((ms (ms m 56 c (nI (mFree m c))) 57 c v).1 30 22) + 1)).1 60 c)))).1 30 21) + 1)) 58 c ((ms (ms (ms (ms (ms m 56 c (nI (mFree m c))) 57 c v) 30 22 (((ms (ms m 56 c (nI (mFree m c))) 57 c v).1 30 22) + 1)) 30 23 (((ms (ms (ms m 56 c (nI (mFree m c))) 57 c v) 30 22 (((ms (ms m 56 c (nI (mFree m c))) 57 c v).1 30 22) + 1)).1 30 23) + (((ms (ms (ms m 56 c (nI (mFree m c))) 57 c v) 30 22 (((ms (ms m 56 c (nI (mFree m c))) 57 c v).1 30 22) + 1)).1 30 26) - ((ms (ms (ms m 56 c (nI (mFree m c))) 57 c v) 30 22 (((ms (ms m 56 c (nI (mFree m c))) 57 c v).1 30 22) + 1)).1 60 c)))) 30 21 (((ms (ms (ms (ms m 56 c (nI (mFree m c))) 57 c v) 30 22 (((ms (ms m 56 c (nI (mFree m c))) 57 c v).1 30 22) + 1)) 30 23 (((ms (ms (ms m 56 c (nI (mFree m c))) 57 c v) 30 22 (((ms (ms m 56 c (nI (mFree m c))) 57 c v).1 30 22) + 1)).1 30 23) + (((ms (ms (ms m 56 c (nI (mFree m c))) 57 c v) 30 22 (((ms (ms m 56 c (nI (mFree m c))) 57 c v).1 30 22) + 1)).1 30 26) - ((ms (ms (ms m 56 c (nI (mFree m c))) 57 c v) 30 22 (((ms (ms m 56 c (nI (mFree m c))) 57 c v).1 30 22) + 1)).1 60 c)))).1 30 21) + 1)).1 30 21)) 55 c 115).1 30 26) (hM15.1 30 26 rfl) ?_
    refine J_iast (I' := ku (ku (ku (ku (ku (ku (ku (ku I 56 0 c (nI (mFree m c))) 57 0 c v) 30 0 22 (((ms (ms m 56 c (nI (mFree m c))) 57 c v).1 30 22) + 1)) 30 0 23 (((ms (ms (ms m 56 c (nI (mFree m c))) 57 c v) 30 22 (((ms (ms m 56 c (nI (mFree m c))) 57 c v).1 30 22) + 1)).1 30 23) + (((ms (ms (ms m 56 c (nI (mFree m c))) 57 c v) 30 22 (((ms (ms m 56 c (nI (mFree m c))) 57 c v).1 30 22) + 1)).1 30 26) - ((ms (ms (ms m 56 c (nI (mFree m c))) 57 c v) 30 22 (((ms (ms m 56 c (nI (mFree m c))) 57 c v).1 30 22) + 1)).1 60 c)))) 30 0 21 (((ms (ms (ms (ms m 56 c (nI (mFree m c))) 57 c v) 30 22 (((ms (ms m 56 c (nI (mFree m c))) 57 c v).1 30 22) + 1)) 30 23 (((ms (ms (ms m 56 c (nI (mFree m c))) 57 c v) 30 22 (((ms (ms m 56 c (nI (mFree m c))) 57 c v).1 30 22) + 1)).1 30 23) + (((ms (ms (ms m 56 c (nI (mFree m c))) 57 c v) 30 22 (((ms (ms m 56 c (nI (mFree m c))) 57 c v).1 30 22) + 1)).1 30 26) - ((ms (ms (ms m 56 c (nI (mFree m c))) 57 c v) 30 22 (((ms (ms m 56 c (nI (mFree m c))) 57 c v).1 30 22) + 1)).1 60 c)))).1 30 21) + 1)) 58 0 c ((ms (ms (ms (ms (ms m 56 c (nI (mFree m c))) 57 c v) 30 22 (((ms (ms m 56 c (nI (mFree m c))) 57 c v).1 30 22) + 1)) 30 23 (((ms (ms (ms m 56 c (nI (mFree m c))) 57 c v) 30 22 (((ms (ms m 56 c (nI (mFree m c))) 57 c v).1 30 22) + 1)).1 30 23) + (((ms (ms (ms m 56 c (nI (mFree m c))) 57 c v) 30 22 (((ms (ms m 56 c (nI (mFree m c))) 57 c v).1 30 22) + 1)).1 30 26) - ((ms (ms (ms m 56 c (nI (mFree m c))) 57 c v) 30 22 (((ms (ms m 56 c (nI (mFree m c))) 57 c v).1 30 22) + 1)).1 60 c)))) 30 21 (((ms (ms (ms (ms m 56 c (nI (mFree m c))) 57 c v) 30 22 (((ms (ms m 56 c (nI (mFree m c))) 57 c v).1 30 22) + 1)) 30 23 (((ms (ms (ms m 56 c (nI (mFree m c))) 57 c v) 30 22 (((ms (ms m 56 c (nI (mFree m c))) 57 c v).1 30 22) + 1)).1 30 23) + (((ms (ms (ms m 56 c (nI (mFree m c))) 57 c v) 30 22 (((ms (ms m 56 c (nI (mFree m c))) 57 c v).1 30 22) + 1)).1 30 26) - ((ms (ms (ms m 56 c (nI (mFree m c))) 57 c v) 30 22 (((ms (ms m 56 c (nI (mFree m c))) 57 c v).1 30 22) + 1)).1 60 c)))).1 30 21) + 1)).1 30 21)) 55 0 c 115) 45 0 ((m.1 51 c).toNatClampNeg) ((ms (ms (ms (ms (ms (ms (ms m 56 c (nI (mFree m c))) 57 c v) 30 22 (((ms (ms m 56 c (nI (mFree m c))) 57 c v).1 30 22) + 1)) 30 23 (((ms (ms (ms m 56 c (nI (mFree m c))) 57 c v) 30 22 (((ms (ms m 56 c (nI (mFree m c))) 57 c v).1 30 22) + 1)).1 30 23) + (((ms (ms (ms m 56 c (nI (mFree m c))) 57 c v) 30 22 (((ms (ms m 56 c (nI (mFree m c))) 57 c v).1 30 22) + 1)).1 30 26) - ((ms (ms (ms m 56 c (nI (mFree m c))) 57 c v) 30 22 (((ms (ms m 56 c (nI (mFree m c))) 57 c v).1 30 22) + 1)).1 60 c)))) 30 21 (((ms (ms (ms (ms m 56 c (nI (mFree m c))) 57 c v) 30 22 (((ms (ms m 56 c (nI (mFree m c))) 57 c v).1 30 22) + 1)) 30 23 (((ms (ms (ms m 56 c (nI (mFree m c))) 57 c v) 30 22 (((ms (ms m 56 c (nI (mFree m c))) 57 c v).1 30 22) + 1)).1 30 23) + (((ms (ms (ms m 56 c (nI (mFree m c))) 57 c v) 30 22 (((ms (ms m 56 c (nI (mFree m c))) 57 c v).1 30 22) + 1)).1 30 26) - ((ms (ms (ms m 56 c (nI (mFree m c))) 57 c v) 30 22 (((ms (ms m 56 c (nI (mFree m c))) 57 c v).1 30 22) + 1)).1 60 c)))).1 30 21) + 1)) 58 c ((ms (ms (ms (ms (ms m 56 c (nI (mFree m c))) 57 c v) 30 22 (((ms (ms m 56 c (nI (mFree m c))) 57 c v).1 30 22) + 1)) 30 23 (((ms (ms (ms m 56 c (nI (mFree m c))) 57 c v) 30 22 (((ms (ms m 56 c (nI (mFree m c))) 57 c v).1 30 22) + 1)).1 30 23) + (((ms (ms (ms m 56 c (nI (mFree m c))) 57 c v) 30 22 (((ms (ms m 56 c (nI (mFree m c))) 57 c v).1 30 22) + 1)).1 30 26) - ((ms (ms (ms m 56 c (nI (mFree m c))) 57 c v) 30 22 (((ms (ms m 56 c (nI (mFree m c))) 57 c v).1 30 22) + 1)).1 60 c)))) 30 21 (((ms (ms (ms (ms m 56 c (nI (mFree m c))) 57 c v) 30 22 (((ms (ms m 56 c (nI (mFree m c))) 57 c v).1 30 22) + 1)) 30 23 (((ms (ms (ms m 56 c (nI (mFree m c))) 57 c v) 30 22 (((ms (ms m 56 c (nI (mFree m c))) 57 c v).1 30 22) + 1)).1 30 23) + (((ms (ms (ms m 56 c (nI (mFree m c))) 57 c v) 30 22 (((ms (ms m 56 c (nI (mFree m c))) 57 c v).1 30 22) + 1)).1 30 26) - ((ms (ms (ms m 56 c (nI (mFree m c))) 57 c v) 30 22 (((ms (ms m 56 c (nI (mFree m c))) 57 c v).1 30 22) + 1)).1 60 c)))).1 30 21) + 1)).1 30 21)) 55 c 115).1 30 26)) (L' := L) (R' := R) ((m.1 51 c).toNatClampNeg) 0 n45 rfl rfl (by assumption) rfl (by rw [ku_own]; rfl) (fun k' i' h => ⟨ku_row _ _ h, rfl, rfl⟩) dX8_beginsNow_183 ?_
    have hM16 := MR_ms (k := 45) (j := (m.1 51 c).toNatClampNeg) (v := ((ms (ms (ms (ms (ms (ms (ms m 56 c (nI (mFree m c))) 57 c v) 30 22 (((ms (ms m 56 c (nI (mFree m c))) 57 c v).1 30 22) + 1)) 30 23 (((ms (ms (ms m 56 c (nI (mFree m c))) 57 c v) 30 22 (((ms (ms m 56 c (nI (mFree m c))) 57 c v).1 30 22) + 1)).1 30 23) + (((ms (ms (ms m 56 c (nI (mFree m c))) 57 c v) 30 22 (((ms (ms m 56 c (nI (mFree m c))) 57 c v).1 30 22) + 1)).1 30 26) - ((ms (ms (ms m 56 c (nI (mFree m c))) 57 c v) 30 22 (((ms (ms m 56 c (nI (mFree m c))) 57 c v).1 30 22) + 1)).1 60 c)))) 30 21 (((ms (ms (ms (ms m 56 c (nI (mFree m c))) 57 c v) 30 22 (((ms (ms m 56 c (nI (mFree m c))) 57 c v).1 30 22) + 1)) 30 23 (((ms (ms (ms m 56 c (nI (mFree m c))) 57 c v) 30 22 (((ms (ms m 56 c (nI (mFree m c))) 57 c v).1 30 22) + 1)).1 30 23) + (((ms (ms (ms m 56 c (nI (mFree m c))) 57 c v) 30 22 (((ms (ms m 56 c (nI (mFree m c))) 57 c v).1 30 22) + 1)).1 30 26) - ((ms (ms (ms m 56 c (nI (mFree m c))) 57 c v) 30 22 (((ms (ms m 56 c (nI (mFree m c))) 57 c v).1 30 22) + 1)).1 60 c)))).1 30 21) + 1)) 58 c ((ms (ms (ms (ms (ms m 56 c (nI (mFree m c))) 57 c v) 30 22 (((ms (ms m 56 c (nI (mFree m c))) 57 c v).1 30 22) + 1)) 30 23 (((ms (ms (ms m 56 c (nI (mFree m c))) 57 c v) 30 22 (((ms (ms m 56 c (nI (mFree m c))) 57 c v).1 30 22) + 1)).1 30 23) + (((ms (ms (ms m 56 c (nI (mFree m c))) 57 c v) 30 22 (((ms (ms m 56 c (nI (mFree m c))) 57 c v).1 30 22) + 1)).1 30 26) - ((ms (ms (ms m 56 c (nI (mFree m c))) 57 c v) 30 22 (((ms (ms m 56 c (nI (mFree m c))) 57 c v).1 30 22) + 1)).1 60 c)))) 30 21 (((ms (ms (ms (ms m 56 c (nI (mFree m c))) 57 c v) 30 22 (((ms (ms m 56 c (nI (mFree m c))) 57 c v).1 30 22) + 1)) 30 23 (((ms (ms (ms m 56 c (nI (mFree m c))) 57 c v) 30 22 (((ms (ms m 56 c (nI (mFree m c))) 57 c v).1 30 22) + 1)).1 30 23) + (((ms (ms (ms m 56 c (nI (mFree m c))) 57 c v) 30 22 (((ms (ms m 56 c (nI (mFree m c))) 57 c v).1 30 22) + 1)).1 30 26) - ((ms (ms (ms m 56 c (nI (mFree m c))) 57 c v) 30 22 (((ms (ms m 56 c (nI (mFree m c))) 57 c v).1 30 22) + 1)).1 60 c)))).1 30 21) + 1)).1 30 21)) 55 c 115).1 30 26)) hM15 rfl
    refine J_aload_n 0 rfl dX8_beginsNow_184 ?_
    refine J_bipush (v := 98) (by decide) dX8_beginsNow_185 ?_
    refine J_iload_n 1 rfl dX8_beginsNow_187 ?_
    refine cv_8_162 (cells' := 0) (slots' := 0) dX8_beginsNow_188 (c_X8_logs hM16 hg0 (by decide)) n30 ⟨by decide, by decide⟩ rfl rfl (by decide) (by decide) (Nat.le_of_ble_eq_true rfl) (fun _ _ r18 => ?_) (fun _ _ h => h.elim)
    obtain ⟨rfl, I17, L17, rfl, hM17⟩ := r18
    refine J_eq (st' := []) rfl rfl rfl ?_
    exact J_return rfl dX8_beginsNow_191 (⟨rfl, _, _, rfl, by first | (rw [take_R, firstB_p (a := (ms (ms m 56 c (nI (mFree m c))) 57 c v)) (by assumption)]; exact hM17) | (rw [take_R, firstB_n (a := (ms (ms m 56 c (nI (mFree m c))) 57 c v)) (by assumption)]; exact hM17)⟩) (by omega) (by omega)

set_option maxRecDepth 20000 in
set_option maxHeartbeats 1000000 in
theorem lr_X8_beginsNow {cy : Nat → ClassId} {S : Nat → Nat → Nat} {I : kI} {L : kL} {R : kRf} {m : Mu} {cd v : Int32} {c : Nat} (hM : MR m cd I L) (hn : mN m) {B : Nat} (hI : Inv m B) (hB : B + 1 < 2 ^ 30) (hc : c < mC m) : J yX8_beginsNow.cls yX8_beginsNow.name cX8_beginsNow 4 none 4 0 0 cy (fun r w' => r = none ∧ MX cy S R (mTake (mRoom m c) c v) cd w') kF 67 [(0, .ref (ka S 30 0)), (1, .int (nI c)), (2, .int v)] [] (wm cy S I L R) 0 0 := by
  have h150 := hI.2.2.1
  have hg0 := inv_g hI (by omega)
  have hf2 := room_free (c := c) hI.2.2.2.2.1
  by_cases h3 : mFree m c = 3
  · obtain ⟨h0, h03, -, hmw⟩ := weak_on h3
    have hwC := (mOn_some hmw).1
    have er : mRoom m c = mInt m (mWeak m c) := if_pos h3
    rw [er] at hf2 ⊢
    refine J_aload_n 0 rfl dX8_beginsNow_67 ?_
    refine J_iload_n 1 rfl dX8_beginsNow_68 ?_
    refine cv_8_166 (cells' := 0) (slots' := 0) dX8_beginsNow_69 (c_X8_freeChannel hM hn h150 (by omega)) n30 ⟨by decide, by decide⟩ rfl rfl (by decide) (by decide) (Nat.le_of_ble_eq_true rfl) (fun _ _ r1 => ?_) (fun _ _ h => h.elim)
    obtain ⟨rfl, rfl⟩ := r1
    refine J_eq (st' := [.int (if mFree m c = 3 then -1 else nI (mFree m c))]) rfl rfl rfl ?_
    refine J_topeq (-1) (by exact if_pos h3) ?_
    refine J_if_ge 84 (by decide) dX8_beginsNow_72 (fun c2 => ?_) (fun c2 => ?_)
    · exact absurd c2 (by decide)
    refine J_aload_n 0 rfl dX8_beginsNow_75 ?_
    refine J_aload_n 0 rfl dX8_beginsNow_76 ?_
    refine J_iload_n 1 rfl dX8_beginsNow_77 ?_
    refine cv_8_169 (cells' := 0) (slots' := 0) dX8_beginsNow_78 (c_X8_weakest hM hn hI (by omega) h3) n30 ⟨by decide, by decide⟩ rfl rfl (by decide) (by decide) (Nat.le_of_ble_eq_true rfl) (fun _ _ r3 => ?_) (fun _ _ h => h.elim)
    obtain ⟨rfl, rfl⟩ := r3
    refine J_eq (st' := [.int (nI (mWeak m c)), .ref (ka S 30 0)]) rfl rfl rfl ?_
    refine cv_8_126 (cells' := 0) (slots' := 0) dX8_beginsNow_81 (c_X8_interrupts (c := (mWeak m c)) hM (by omega) hg0) n30 ⟨by decide, by decide⟩ rfl rfl (by decide) (by decide) (Nat.le_of_ble_eq_true rfl) (fun _ _ r5 => ?_) (fun _ _ h => h.elim)
    obtain ⟨rfl, I4, L4, rfl, hM4⟩ := r5
    refine J_eq (st' := []) rfl rfl rfl ?_
    exact lt_X8_beginsNow hM4 (mN_same (same_int _) hn) (inv_int hI hwC (mOn_some hmw).2.1) (by omega) (by rw [(same_int _).eC]; exact hc) hf2
  · have er : mRoom m c = m := if_neg h3
    have hf3 := (free_none h3).1
    rw [er]
    refine J_aload_n 0 rfl dX8_beginsNow_67 ?_
    refine J_iload_n 1 rfl dX8_beginsNow_68 ?_
    refine cv_8_166 (cells' := 0) (slots' := 0) dX8_beginsNow_69 (c_X8_freeChannel hM hn h150 (by omega)) n30 ⟨by decide, by decide⟩ rfl rfl (by decide) (by decide) (Nat.le_of_ble_eq_true rfl) (fun _ _ r1 => ?_) (fun _ _ h => h.elim)
    obtain ⟨rfl, rfl⟩ := r1
    refine J_eq (st' := [.int (if mFree m c = 3 then -1 else nI (mFree m c))]) rfl rfl rfl ?_
    refine J_topeq (nI (mFree m c)) (by exact if_neg h3) ?_
    refine J_if_ge 84 (by decide) dX8_beginsNow_72 (fun c2 => ?_) (fun c2 => ?_)
    rotate_left
    · exfalso
      have Nc2 : ¬ (0 ≤ (mFree m c)) := fun q => c2 ((nI_leI (a := 0) (b := (mFree m c)) (by omega) (by omega)).mpr q)
      omega
    have Nc2 : 0 ≤ (mFree m c) := (nI_leI (a := 0) (b := (mFree m c)) (by omega) (by omega)).mp c2
    exact lt_X8_beginsNow hM hn hI (by omega) hc h3

set_option maxRecDepth 20000 in
set_option maxHeartbeats 1000000 in
theorem ls_X8_beginsNow {cy : Nat → ClassId} {S : Nat → Nat → Nat} {I : kI} {L : kL} {R : kRf} {m : Mu} {cd v : Int32} {Q : kQT} {c h : Nat} (hM : MR m cd I L) (hn : mN m) {B : Nat} (hI : Inv m B) (hB : B < 2 ^ 30) (hh3 : h < 3) (kk : ∀ (I : kI) (L : kL), MR (mIntOn v h m) cd I L → J yX8_beginsNow.cls yX8_beginsNow.name cX8_beginsNow 4 none 4 0 0 cy Q kF 24 [(0, .ref (ka S 30 0)), (1, .int (nI c)), (2, .int v), (3, .int (nI (h + 1)))] [] (wm cy S I L R) 0 0) : J yX8_beginsNow.cls yX8_beginsNow.name cX8_beginsNow 4 none 4 0 0 cy Q kF 24 [(0, .ref (ka S 30 0)), (1, .int (nI c)), (2, .int v), (3, .int (nI h))] [] (wm cy S I L R) 0 0 := by
  have h150 := hI.2.2.1
  have hg0 := inv_g hI hB
  rcases opt_split (mOn m h) with hm | ⟨p, hm⟩
  · have e : mIntOn v h m = m := by unfold mIntOn; rw [hm]
    rw [e] at kk
    refine J_iload_n 3 rfl dX8_beginsNow_24 ?_
    refine J_iconst (v := 3) (by decide) dX8_beginsNow_25 ?_
    refine J_icmp_ge 67 (by decide) dX8_beginsNow_26 (fun c1 => ?_) (fun c1 => ?_)
    · exfalso
      have Nc1 : 3 ≤ h := (nI_leI (a := 3) (b := h) (by omega) (by omega)).mp c1
      omega
    have Nc1 : ¬ (3 ≤ h) := fun q => c1 ((nI_leI (a := 3) (b := h) (by omega) (by omega)).mpr q)
    refine J_aload_n 0 rfl dX8_beginsNow_29 ?_
    refine J_iload_n 3 rfl dX8_beginsNow_30 ?_
    refine cv_8_153 (cells' := 0) (slots' := 0) dX8_beginsNow_31 (c_X8_speaker (h := h) hM hn h150) n30 ⟨by decide, by decide⟩ rfl rfl (by decide) (by decide) (Nat.le_of_ble_eq_true rfl) (fun _ _ r2 => ?_) (fun _ _ h => h.elim)
    obtain ⟨rfl, rfl⟩ := r2
    refine J_eq (st' := [.int (oI (mOn m h))]) rfl rfl rfl ?_
    refine J_topeq (-1) (by rw [hm]; rfl) ?_
    refine J_if_lt 61 (by decide) dX8_beginsNow_34 (fun c3 => ?_) (fun c3 => ?_)
    rotate_left
    · exact absurd (by decide) c3
    refine J_iinc (v := (nI (h + 1))) (lv' := [(0, .ref (ka S 30 0)), (1, .int (nI c)), (2, .int v), (3, .int (nI (h + 1)))]) 3 rfl (by exact nI_add h 1) (by decide) rfl dX8_beginsNow_61 ?_
    refine J_goto 24 (by decide) dX8_beginsNow_64 ?_
    exact kk _ _ hM
  · have hp := (mOn_some hm).1
    have e : mIntOn v h m = if m.1 57 p &&& v ≠ 0 then mInt m p else m := by unfold mIntOn; rw [hm]
    rw [e] at kk
    refine J_iload_n 3 rfl dX8_beginsNow_24 ?_
    refine J_iconst (v := 3) (by decide) dX8_beginsNow_25 ?_
    refine J_icmp_ge 67 (by decide) dX8_beginsNow_26 (fun c1 => ?_) (fun c1 => ?_)
    · exfalso
      have Nc1 : 3 ≤ h := (nI_leI (a := 3) (b := h) (by omega) (by omega)).mp c1
      omega
    have Nc1 : ¬ (3 ≤ h) := fun q => c1 ((nI_leI (a := 3) (b := h) (by omega) (by omega)).mpr q)
    refine J_aload_n 0 rfl dX8_beginsNow_29 ?_
    refine J_iload_n 3 rfl dX8_beginsNow_30 ?_
    refine cv_8_153 (cells' := 0) (slots' := 0) dX8_beginsNow_31 (c_X8_speaker (h := h) hM hn h150) n30 ⟨by decide, by decide⟩ rfl rfl (by decide) (by decide) (Nat.le_of_ble_eq_true rfl) (fun _ _ r2 => ?_) (fun _ _ h => h.elim)
    obtain ⟨rfl, rfl⟩ := r2
    refine J_eq (st' := [.int (oI (mOn m h))]) rfl rfl rfl ?_
    refine J_topeq (nI p) (by rw [hm]; rfl) ?_
    refine J_if_lt 61 (by decide) dX8_beginsNow_34 (fun c3 => ?_) (fun c3 => ?_)
    · exfalso
      have Nc3 : p < 0 := (nI_ltI (a := p) (b := 0) (by omega) (by omega)).mp c3
      omega
    have Nc3 : ¬ (p < 0) := fun q => c3 ((nI_ltI (a := p) (b := 0) (by omega) (by omega)).mpr q)
    refine J_aload_n 0 rfl dX8_beginsNow_37 ?_
    refine gf_8_54 n30 dX8_beginsNow_38 ?_
    refine J_aload_n 0 rfl dX8_beginsNow_41 ?_
    refine J_iload_n 3 rfl dX8_beginsNow_42 ?_
    refine cv_8_153 (cells' := 0) (slots' := 0) dX8_beginsNow_43 (c_X8_speaker (h := h) hM hn h150) n30 ⟨by decide, by decide⟩ rfl rfl (by decide) (by decide) (Nat.le_of_ble_eq_true rfl) (fun _ _ r4 => ?_) (fun _ _ h => h.elim)
    obtain ⟨rfl, rfl⟩ := r4
    refine J_eq (st' := [.int (oI (mOn m h)), .ref (ka S 57 0)]) rfl rfl rfl ?_
    refine J_topeq (nI p) (by rw [hm]; rfl) ?_
    refine J_iald p 0 n57 rfl rfl (vp_in_nI (by omega) (by decide)) (nI_toNat (by omega)) dX8_beginsNow_46 ?_
    refine J_topeq (m.1 57 p) (hM.1 57 p rfl) ?_
    refine J_iload_n 2 rfl dX8_beginsNow_47 ?_
    refine J_iand dX8_beginsNow_48 ?_
    refine J_if_eq 61 (by decide) dX8_beginsNow_49 (fun c5 => ?_) (fun c5 => ?_)
    · skip
      refine J_iinc (v := (nI (h + 1))) (lv' := [(0, .ref (ka S 30 0)), (1, .int (nI c)), (2, .int v), (3, .int (nI (h + 1)))]) 3 rfl (by exact nI_add h 1) (by decide) rfl dX8_beginsNow_61 ?_
      refine J_goto 24 (by decide) dX8_beginsNow_64 ?_
      exact kk _ _ (by first | (rw [if_pos (by assumption)]; exact hM) | (rw [if_neg (fun q => q (by assumption))]; exact hM))
    · skip
      refine J_aload_n 0 rfl dX8_beginsNow_52 ?_
      refine J_aload_n 0 rfl dX8_beginsNow_53 ?_
      refine J_iload_n 3 rfl dX8_beginsNow_54 ?_
      refine cv_8_153 (cells' := 0) (slots' := 0) dX8_beginsNow_55 (c_X8_speaker (h := h) hM hn h150) n30 ⟨by decide, by decide⟩ rfl rfl (by decide) (by decide) (Nat.le_of_ble_eq_true rfl) (fun _ _ r7 => ?_) (fun _ _ h => h.elim)
      obtain ⟨rfl, rfl⟩ := r7
      refine J_eq (st' := [.int (oI (mOn m h)), .ref (ka S 30 0)]) rfl rfl rfl ?_
      refine J_topeq (nI p) (by rw [hm]; rfl) ?_
      refine cv_8_126 (cells' := 0) (slots' := 0) dX8_beginsNow_58 (c_X8_interrupts (c := p) hM (by omega) hg0) n30 ⟨by decide, by decide⟩ rfl rfl (by decide) (by decide) (Nat.le_of_ble_eq_true rfl) (fun _ _ r9 => ?_) (fun _ _ h => h.elim)
      obtain ⟨rfl, I8, L8, rfl, hM8⟩ := r9
      refine J_eq (st' := []) rfl rfl rfl ?_
      refine J_iinc (v := (nI (h + 1))) (lv' := [(0, .ref (ka S 30 0)), (1, .int (nI c)), (2, .int v), (3, .int (nI (h + 1)))]) 3 rfl (by exact nI_add h 1) (by decide) rfl dX8_beginsNow_61 ?_
      refine J_goto 24 (by decide) dX8_beginsNow_64 ?_
      exact kk _ _ (by first | (rw [if_pos (by assumption)]; exact hM8) | (rw [if_neg (fun q => q (by assumption))]; exact hM8))

set_option maxRecDepth 20000 in
set_option maxHeartbeats 1000000 in
theorem c_X8_beginsNow {cy : Nat → ClassId} {S : Nat → Nat → Nat} {I : kI} {L : kL} {R : kRf} {m : Mu} {cd : Int32} {c : Nat} (hM : MR m cd I L) (hn : mN m) {B : Nat} (hI : Inv m B) (hB : B + 10 < 2 ^ 30) (hc : c < mC m) (hcan : mCan m c = true) : Con yX8_beginsNow cX8_beginsNow 4 none 4 0 0 cy [.ref (ka S 30 0), .int (nI c)] (wm cy S I L R) (fun r w' => r = none ∧ MX cy S R (mBegin m c) cd w') kF := by
  have h150 := hI.2.2.1
  have h10 := hI.1
  obtain ⟨⟨f, t, k1, k2, k3, k4, -⟩, -⟩ := hI.2.2.2.1 c hc
  have hl10 : (mWay m (nI f) (nI t)).length ≤ 10 := by
    have := (gWay_le (adj := mAdj m) h10 k4 k2).1
    unfold mWay; rw [nI_toNat (by omega), nI_toNat (by omega)]; exact this
  have hne : mWay m (nI f) (nI t) ≠ [] := by
    unfold mCan at hcan
    rw [k1, k3] at hcan
    simp only [Bool.and_eq_true, decide_eq_true_eq] at hcan
    exact hcan.1
  have hbg : mBegin m c = mTake (mRoom (mClear m (mBits m (nI f) (nI t))) c) c (mBits m (nI f) (nI t)) := by unfold mBegin; rw [k1, k3]
  rw [hbg]
  have i1 : Inv (mIntOn (mBits m (nI f) (nI t)) 0 m) (B + 1) := intOn_inv hI
  have i2 : Inv (mIntOn (mBits m (nI f) (nI t)) 1 (mIntOn (mBits m (nI f) (nI t)) 0 m)) (B + 2) := intOn_inv i1
  have i3 : Inv (mClear m (mBits m (nI f) (nI t))) (B + 3) := clear_inv hI
  refine Con_of (by decide +kernel) (Nat.le_of_ble_eq_true rfl) ?_
  refine J_eq (lv' := [(0, .ref (ka S 30 0)), (1, .int (nI c))]) rfl rfl rfl ?_
  refine J_aload_n 0 rfl dX8_beginsNow_0 ?_
  refine J_aload_n 0 rfl dX8_beginsNow_1 ?_
  refine gf_8_35 n30 dX8_beginsNow_2 ?_
  refine J_iload_n 1 rfl dX8_beginsNow_5 ?_
  refine J_iald c 0 n51 rfl rfl (vp_in_nI (by omega) (by decide)) (nI_toNat (by omega)) dX8_beginsNow_6 ?_
  refine J_topeq (nI f) ((hM.1 51 c rfl).trans (by exact k1)) ?_
  refine J_aload_n 0 rfl dX8_beginsNow_7 ?_
  refine gf_8_38 n30 dX8_beginsNow_8 ?_
  refine J_iload_n 1 rfl dX8_beginsNow_11 ?_
  refine J_iald c 0 n52 rfl rfl (vp_in_nI (by omega) (by decide)) (nI_toNat (by omega)) dX8_beginsNow_12 ?_
  refine J_topeq (nI t) ((hM.1 52 c rfl).trans (by exact k3)) ?_
  refine cv_8_138 (cells' := 0) (slots' := 0) dX8_beginsNow_13 (c_X8_finds hM hn h10 k2 k4) n30 ⟨by decide, by decide⟩ rfl rfl (by decide) (by decide) (Nat.le_of_ble_eq_true rfl) (fun _ _ r2 => ?_) (fun _ _ h => h.elim)
  obtain ⟨rfl, I1, L1, rfl, hM1, hw⟩ := r2
  refine J_eq (st' := [.int (kb (decide (mWay m (nI f) (nI t) ≠ [])))]) rfl rfl rfl ?_
  refine J_topeq 1 (by rw [decide_eq_true hne]; rfl) ?_
  refine J_pop rfl dX8_beginsNow_16 ?_
  refine J_aload_n 0 rfl dX8_beginsNow_17 ?_
  refine cv_8_149 (cells' := 0) (slots' := 0) dX8_beginsNow_18 (c_X8_bits (l := mWay m (nI f) (nI t)) hM1 (hw hne).1 hl10 (hw hne).2) n30 ⟨by decide, by decide⟩ rfl rfl (by decide) (by decide) (Nat.le_of_ble_eq_true rfl) (fun _ _ r3 => ?_) (fun _ _ h => h.elim)
  obtain ⟨rfl, rfl⟩ := r3
  refine J_eq (st' := [.int (mBits m (nI f) (nI t))]) rfl rfl rfl ?_
  refine J_istore_n (lv' := [(0, .ref (ka S 30 0)), (1, .int (nI c)), (2, .int (mBits m (nI f) (nI t)))]) (by decide) rfl dX8_beginsNow_21 ?_
  refine J_iconst (v := 0) (by decide) dX8_beginsNow_22 ?_
  refine J_istore_n (lv' := [(0, .ref (ka S 30 0)), (1, .int (nI c)), (2, .int (mBits m (nI f) (nI t))), (3, .int 0)]) (by decide) rfl dX8_beginsNow_23 ?_
  refine J_eq (lv' := [(0, .ref (ka S 30 0)), (1, .int (nI c)), (2, .int (mBits m (nI f) (nI t))), (3, .int (nI 0))]) rfl rfl rfl ?_
  refine ls_X8_beginsNow (h := 0) hM1 hn hI (by omega) (by decide) (fun Ia La ha => ?_)
  refine ls_X8_beginsNow (h := 1) ha (mN_same intOn_same hn) i1 (by omega) (by decide) (fun Ib Lb hb => ?_)
  refine ls_X8_beginsNow (h := 2) hb (mN_same intOn_same (mN_same intOn_same hn)) i2 (by omega) (by decide) (fun Ic Lc hcc => ?_)
  refine J_iload_n 3 rfl dX8_beginsNow_24 ?_
  refine J_iconst (v := 3) (by decide) dX8_beginsNow_25 ?_
  refine J_icmp_ge 67 (by decide) dX8_beginsNow_26 (fun c1 => ?_) (fun c1 => ?_)
  rotate_left
  · exfalso
    have Nc1 : ¬ (3 ≤ 3) := fun q => c1 ((nI_leI (a := 3) (b := 3) (by omega) (by omega)).mpr q)
    omega
  have Nc1 : 3 ≤ 3 := (nI_leI (a := 3) (b := 3) (by omega) (by omega)).mp c1
  refine J_sub (lv' := [(0, .ref (ka S 30 0)), (1, .int (nI c)), (2, .int (mBits m (nI f) (nI t)))]) [0, 1, 2] rfl ?_
  exact lr_X8_beginsNow hcc (mN_same clear_same hn) i3 (by omega) (by rw [clear_same.eC]; exact hc)

set_option maxRecDepth 20000 in
set_option maxHeartbeats 1000000 in
theorem l_X8_letsSpeak {cy : Nat → ClassId} {S : Nat → Nat → Nat} {R : kRf} {X : Mu} {cd : Int32} {B0 r n : Nat} (hB : B0 + 4000 < 2 ^ 30) (hr : r ≤ 3) (kk : ∀ (I : kI) (L : kL) (m : Mu), MR m cd I L → mN m → mC m = n → Inv m (B0 + 6 * (150 * (3 - r) + 150)) → mT (150 * (3 - r) + 150) m = X → J yX8_letsSpeak.cls yX8_letsSpeak.name cX8_letsSpeak 3 none 5 0 0 cy (fun r w' => r = none ∧ MX cy S R X cd w') kF 59 [(0, .ref (ka S 30 0)), (1, .int (nI r))] [] (wm cy S I L R) 0 0) : ∀ (j c : Nat) (I : kI) (L : kL) (m : Mu), c + j = n → MR m cd I L → mN m → mC m = n → Inv m (B0 + 6 * (150 * (3 - r) + c)) → mT (150 * (3 - r) + c) m = X → J yX8_letsSpeak.cls yX8_letsSpeak.name cX8_letsSpeak 3 none 5 0 0 cy (fun r w' => r = none ∧ MX cy S R X cd w') kF 8 [(0, .ref (ka S 30 0)), (1, .int (nI r)), (2, .int (nI c))] [] (wm cy S I L R) 0 0 := by
  intro j
  induction j with
  | zero =>
    intro c I L m hcn hM hn hmc hI hX
    have h150 := hI.2.2.1
    have hc : c = mC m := by omega
    subst hc
    rw [mT_over (q := 150 * (3 - r)) (150 - mC m) _ (by omega) (by omega) (fun x h1 h2 => by omega) (by omega)] at hX
    refine J_iload_n 2 rfl dX8_letsSpeak_8 ?_
    refine J_aload_n 0 rfl dX8_letsSpeak_9 ?_
    refine gf_8_135 n30 dX8_letsSpeak_10 ?_
    refine J_topeq (nI (mC m)) ((hM.1 30 10 rfl).trans (by exact hn.2)) ?_
    refine J_icmp_ge 59 (by decide) dX8_letsSpeak_13 (fun c1 => ?_) (fun c1 => ?_)
    rotate_left
    · exfalso
      have Nc1 : ¬ ((mC m) ≤ (mC m)) := fun q => c1 ((nI_leI (a := (mC m)) (b := (mC m)) (by omega) (by omega)).mpr q)
      omega
    have Nc1 : (mC m) ≤ (mC m) := (nI_leI (a := (mC m)) (b := (mC m)) (by omega) (by omega)).mp c1
    refine J_sub (lv' := [(0, .ref (ka S 30 0)), (1, .int (nI r))]) [0, 1] rfl ?_
    exact kk I L m hM hn hmc (hI.mono (by omega)) hX
  | succ j ih =>
    intro c I L m hcn hM hn hmc hI hX
    have h150 := hI.2.2.1
    have hc : c < mC m := by omega
    rw [mT_step (by omega), turn_u (by omega) hr] at hX
    by_cases hcn2 : mCan m c = true
    · skip
      refine J_iload_n 2 rfl dX8_letsSpeak_8 ?_
      refine J_aload_n 0 rfl dX8_letsSpeak_9 ?_
      refine gf_8_135 n30 dX8_letsSpeak_10 ?_
      refine J_topeq (nI (mC m)) ((hM.1 30 10 rfl).trans (by exact hn.2)) ?_
      refine J_icmp_ge 59 (by decide) dX8_letsSpeak_13 (fun c1 => ?_) (fun c1 => ?_)
      · exfalso
        have Nc1 : (mC m) ≤ c := (nI_leI (a := (mC m)) (b := c) (by omega) (by omega)).mp c1
        omega
      have Nc1 : ¬ ((mC m) ≤ c) := fun q => c1 ((nI_leI (a := (mC m)) (b := c) (by omega) (by omega)).mpr q)
      refine J_aload_n 0 rfl dX8_letsSpeak_16 ?_
      refine gf_8_48 n30 dX8_letsSpeak_17 ?_
      refine J_iload_n 2 rfl dX8_letsSpeak_20 ?_
      refine J_cald c 1 n55 rfl rfl (vp_in_nI (by omega) (by decide)) (nI_toNat (by omega)) dX8_letsSpeak_21 ?_
      refine J_topeq (m.1 55 c) (hM.1 55 c rfl) ?_
      refine J_bipush (v := 119) (by decide) dX8_letsSpeak_22 ?_
      refine J_icmp_ne 53 (by decide) dX8_letsSpeak_24 (fun c2 => ?_) (fun c2 => ?_)
      · skip
        refine J_iinc (v := (nI (c + 1))) (lv' := [(0, .ref (ka S 30 0)), (1, .int (nI r)), (2, .int (nI (c + 1)))]) 2 rfl (by exact nI_add c 1) (by decide) rfl dX8_letsSpeak_53 ?_
        refine J_goto 8 (by decide) dX8_letsSpeak_56 ?_
        rw [if_neg (by first | (intro z; exact absurd z.2.2.1 (by assumption)) | (intro z; exact absurd z.2.1 (by unfold mWait; simp [*])))] at hX
        exact ih (c + 1) _ _ m (by omega) hM hn hmc (hI.mono (by omega)) hX
      · skip
        refine J_aload_n 0 rfl dX8_letsSpeak_27 ?_
        refine gf_8_41 n30 dX8_letsSpeak_28 ?_
        refine J_iload_n 2 rfl dX8_letsSpeak_31 ?_
        refine J_cald c 1 n53 rfl rfl (vp_in_nI (by omega) (by decide)) (nI_toNat (by omega)) dX8_letsSpeak_32 ?_
        refine J_topeq (m.1 53 c) (hM.1 53 c rfl) ?_
        refine cv_8_145 (i := 0) (cells' := 0) (slots' := 0) dX8_letsSpeak_33 (c_X8_rank) ⟨by decide, by decide⟩ rfl rfl (by decide) (by decide) (Nat.le_of_ble_eq_true rfl) (fun _ _ r4 => ?_) (fun _ _ h => h.elim)
        obtain ⟨rfl, rfl⟩ := r4
        refine J_eq (st' := [.int (wghtF (m.1 53 c))]) rfl rfl rfl ?_
        refine J_topeq (mRank m c) rfl ?_
        refine J_iload_n 1 rfl dX8_letsSpeak_36 ?_
        refine J_icmp_ne 53 (by decide) dX8_letsSpeak_37 (fun c5 => ?_) (fun c5 => ?_)
        · skip
          refine J_iinc (v := (nI (c + 1))) (lv' := [(0, .ref (ka S 30 0)), (1, .int (nI r)), (2, .int (nI (c + 1)))]) 2 rfl (by exact nI_add c 1) (by decide) rfl dX8_letsSpeak_53 ?_
          refine J_goto 8 (by decide) dX8_letsSpeak_56 ?_
          rw [if_neg (by first | (intro z; exact absurd z.2.2.1 (by assumption)) | (intro z; exact absurd z.2.1 (by unfold mWait; simp [*])))] at hX
          exact ih (c + 1) _ _ m (by omega) hM hn hmc (hI.mono (by omega)) hX
        · skip
          refine J_aload_n 0 rfl dX8_letsSpeak_40 ?_
          refine J_iload_n 2 rfl dX8_letsSpeak_41 ?_
          refine cv_8_181 (cells' := 0) (slots' := 0) dX8_letsSpeak_42 (c_X8_canBegin hM hn hI hc) n30 ⟨by decide, by decide⟩ rfl rfl (by decide) (by decide) (Nat.le_of_ble_eq_true rfl) (fun _ _ r8 => ?_) (fun _ _ h => h.elim)
          obtain ⟨rfl, I7, L7, rfl, hM7⟩ := r8
          refine J_eq (st' := [.int (kb (mCan m c))]) rfl rfl rfl ?_
          refine J_topeq 1 (by rw [hcn2]; rfl) ?_
          refine J_if_eq 53 (by decide) dX8_letsSpeak_45 (fun c9 => ?_) (fun c9 => ?_)
          · exact absurd c9 (by decide)
          refine J_aload_n 0 rfl dX8_letsSpeak_48 ?_
          refine J_iload_n 2 rfl dX8_letsSpeak_49 ?_
          refine cv_8_184 (cells' := 0) (slots' := 0) dX8_letsSpeak_50 (c_X8_beginsNow hM7 hn hI (by omega) hc hcn2) n30 ⟨by decide, by decide⟩ rfl rfl (by decide) (by decide) (Nat.le_of_ble_eq_true rfl) (fun _ _ r11 => ?_) (fun _ _ h => h.elim)
          obtain ⟨rfl, I10, L10, rfl, hM10⟩ := r11
          refine J_eq (st' := []) rfl rfl rfl ?_
          refine J_iinc (v := (nI (c + 1))) (lv' := [(0, .ref (ka S 30 0)), (1, .int (nI r)), (2, .int (nI (c + 1)))]) 2 rfl (by exact nI_add c 1) (by decide) rfl dX8_letsSpeak_53 ?_
          refine J_goto 8 (by decide) dX8_letsSpeak_56 ?_
          have hwt : mWait m c = true := by unfold mWait; exact decide_eq_true (by assumption)
          rw [if_pos ⟨hc, hwt, by assumption, hcn2⟩] at hX
          exact ih (c + 1) _ _ (mBegin m c) (by omega) hM10 (mN_begin hn) (by rw [show mC (mBegin m c) = mC m from begin_C c]; exact hmc) ((begin_inv hI (by omega) hc hwt).mono (by omega)) hX
    · have hcn2 : mCan m c = false := by simpa using hcn2
      refine J_iload_n 2 rfl dX8_letsSpeak_8 ?_
      refine J_aload_n 0 rfl dX8_letsSpeak_9 ?_
      refine gf_8_135 n30 dX8_letsSpeak_10 ?_
      refine J_topeq (nI (mC m)) ((hM.1 30 10 rfl).trans (by exact hn.2)) ?_
      refine J_icmp_ge 59 (by decide) dX8_letsSpeak_13 (fun c1 => ?_) (fun c1 => ?_)
      · exfalso
        have Nc1 : (mC m) ≤ c := (nI_leI (a := (mC m)) (b := c) (by omega) (by omega)).mp c1
        omega
      have Nc1 : ¬ ((mC m) ≤ c) := fun q => c1 ((nI_leI (a := (mC m)) (b := c) (by omega) (by omega)).mpr q)
      refine J_aload_n 0 rfl dX8_letsSpeak_16 ?_
      refine gf_8_48 n30 dX8_letsSpeak_17 ?_
      refine J_iload_n 2 rfl dX8_letsSpeak_20 ?_
      refine J_cald c 1 n55 rfl rfl (vp_in_nI (by omega) (by decide)) (nI_toNat (by omega)) dX8_letsSpeak_21 ?_
      refine J_topeq (m.1 55 c) (hM.1 55 c rfl) ?_
      refine J_bipush (v := 119) (by decide) dX8_letsSpeak_22 ?_
      refine J_icmp_ne 53 (by decide) dX8_letsSpeak_24 (fun c2 => ?_) (fun c2 => ?_)
      · skip
        refine J_iinc (v := (nI (c + 1))) (lv' := [(0, .ref (ka S 30 0)), (1, .int (nI r)), (2, .int (nI (c + 1)))]) 2 rfl (by exact nI_add c 1) (by decide) rfl dX8_letsSpeak_53 ?_
        refine J_goto 8 (by decide) dX8_letsSpeak_56 ?_
        rw [if_neg (by intro z; rw [hcn2] at z; exact absurd z.2.2.2 (by decide))] at hX
        exact ih (c + 1) _ _ m (by omega) hM hn hmc (hI.mono (by omega)) hX
      · skip
        refine J_aload_n 0 rfl dX8_letsSpeak_27 ?_
        refine gf_8_41 n30 dX8_letsSpeak_28 ?_
        refine J_iload_n 2 rfl dX8_letsSpeak_31 ?_
        refine J_cald c 1 n53 rfl rfl (vp_in_nI (by omega) (by decide)) (nI_toNat (by omega)) dX8_letsSpeak_32 ?_
        refine J_topeq (m.1 53 c) (hM.1 53 c rfl) ?_
        refine cv_8_145 (i := 0) (cells' := 0) (slots' := 0) dX8_letsSpeak_33 (c_X8_rank) ⟨by decide, by decide⟩ rfl rfl (by decide) (by decide) (Nat.le_of_ble_eq_true rfl) (fun _ _ r4 => ?_) (fun _ _ h => h.elim)
        obtain ⟨rfl, rfl⟩ := r4
        refine J_eq (st' := [.int (wghtF (m.1 53 c))]) rfl rfl rfl ?_
        refine J_topeq (mRank m c) rfl ?_
        refine J_iload_n 1 rfl dX8_letsSpeak_36 ?_
        refine J_icmp_ne 53 (by decide) dX8_letsSpeak_37 (fun c5 => ?_) (fun c5 => ?_)
        · skip
          refine J_iinc (v := (nI (c + 1))) (lv' := [(0, .ref (ka S 30 0)), (1, .int (nI r)), (2, .int (nI (c + 1)))]) 2 rfl (by exact nI_add c 1) (by decide) rfl dX8_letsSpeak_53 ?_
          refine J_goto 8 (by decide) dX8_letsSpeak_56 ?_
          rw [if_neg (by intro z; rw [hcn2] at z; exact absurd z.2.2.2 (by decide))] at hX
          exact ih (c + 1) _ _ m (by omega) hM hn hmc (hI.mono (by omega)) hX
        · skip
          refine J_aload_n 0 rfl dX8_letsSpeak_40 ?_
          refine J_iload_n 2 rfl dX8_letsSpeak_41 ?_
          refine cv_8_181 (cells' := 0) (slots' := 0) dX8_letsSpeak_42 (c_X8_canBegin hM hn hI hc) n30 ⟨by decide, by decide⟩ rfl rfl (by decide) (by decide) (Nat.le_of_ble_eq_true rfl) (fun _ _ r8 => ?_) (fun _ _ h => h.elim)
          obtain ⟨rfl, I7, L7, rfl, hM7⟩ := r8
          refine J_eq (st' := [.int (kb (mCan m c))]) rfl rfl rfl ?_
          refine J_topeq 0 (by rw [hcn2]; rfl) ?_
          refine J_if_eq 53 (by decide) dX8_letsSpeak_45 (fun c9 => ?_) (fun c9 => ?_)
          rotate_left
          · exact absurd (by decide) c9
          refine J_iinc (v := (nI (c + 1))) (lv' := [(0, .ref (ka S 30 0)), (1, .int (nI r)), (2, .int (nI (c + 1)))]) 2 rfl (by exact nI_add c 1) (by decide) rfl dX8_letsSpeak_53 ?_
          refine J_goto 8 (by decide) dX8_letsSpeak_56 ?_
          rw [if_neg (by intro z; rw [hcn2] at z; exact absurd z.2.2.2 (by decide))] at hX
          exact ih (c + 1) _ _ m (by omega) hM7 hn hmc (hI.mono (by omega)) hX

set_option maxRecDepth 20000 in
set_option maxHeartbeats 1000000 in
theorem c_X8_letsSpeak {cy : Nat → ClassId} {S : Nat → Nat → Nat} {I : kI} {L : kL} {R : kRf} {m : Mu} {cd : Int32} (hM : MR m cd I L) (hn : mN m) {B : Nat} (hI : Inv m B) (hB : B + 4000 < 2 ^ 30) : Con yX8_letsSpeak cX8_letsSpeak 3 none 5 0 0 cy [.ref (ka S 30 0)] (wm cy S I L R) (fun r w' => r = none ∧ MX cy S R (mSpeak m) cd w') kF := by
  refine Con_of (by decide +kernel) (Nat.le_of_ble_eq_true rfl) ?_
  refine J_eq (lv' := [(0, .ref (ka S 30 0))]) rfl rfl rfl ?_
  refine J_iconst (v := 3) (by decide) dX8_letsSpeak_0 ?_
  refine J_istore_n (lv' := [(0, .ref (ka S 30 0)), (1, .int 3)]) (by decide) rfl dX8_letsSpeak_1 ?_
  refine J_iload_n 1 rfl dX8_letsSpeak_2 ?_
  refine J_if_lt 65 (by decide) dX8_letsSpeak_3 (fun c1 => ?_) (fun c1 => ?_)
  · exact absurd c1 (by decide)
  refine J_iconst (v := 0) (by decide) dX8_letsSpeak_6 ?_
  refine J_istore_n (lv' := [(0, .ref (ka S 30 0)), (1, .int 3), (2, .int 0)]) (by decide) rfl dX8_letsSpeak_7 ?_
  refine J_eq (lv' := [(0, .ref (ka S 30 0)), (1, .int (nI 3)), (2, .int (nI 0))]) rfl rfl rfl ?_
  refine l_X8_letsSpeak (r := 3) (X := mSpeak m) hB (by decide) (fun I3 L3 m3 hM3a hn3 hmc3 hI3 hX3 => ?_) (mC m) 0 I L m (by omega) hM hn rfl (hI.mono (by omega)) (rfl : mT 0 m = mSpeak m)
  refine J_eq (lv' := [(0, .ref (ka S 30 0)), (1, .int 3)]) rfl rfl rfl ?_
  refine J_iinc (v := 2) (lv' := [(0, .ref (ka S 30 0)), (1, .int 2)]) 1 rfl (by decide) (by decide) rfl dX8_letsSpeak_59 ?_
  refine J_goto 2 (by decide) dX8_letsSpeak_62 ?_
  refine J_iload_n 1 rfl dX8_letsSpeak_2 ?_
  refine J_if_lt 65 (by decide) dX8_letsSpeak_3 (fun c1 => ?_) (fun c1 => ?_)
  · exact absurd c1 (by decide)
  refine J_iconst (v := 0) (by decide) dX8_letsSpeak_6 ?_
  refine J_istore_n (lv' := [(0, .ref (ka S 30 0)), (1, .int 2), (2, .int 0)]) (by decide) rfl dX8_letsSpeak_7 ?_
  refine J_eq (lv' := [(0, .ref (ka S 30 0)), (1, .int (nI 2)), (2, .int (nI 0))]) rfl rfl rfl ?_
  refine l_X8_letsSpeak (r := 2) (X := mSpeak m) hB (by decide) (fun I2 L2 m2 hM2a hn2 hmc2 hI2 hX2 => ?_) (mC m3) 0 I3 L3 m3 (by omega) hM3a hn3 rfl (hI3.mono (by omega)) hX3
  refine J_eq (lv' := [(0, .ref (ka S 30 0)), (1, .int 2)]) rfl rfl rfl ?_
  refine J_iinc (v := 1) (lv' := [(0, .ref (ka S 30 0)), (1, .int 1)]) 1 rfl (by decide) (by decide) rfl dX8_letsSpeak_59 ?_
  refine J_goto 2 (by decide) dX8_letsSpeak_62 ?_
  refine J_iload_n 1 rfl dX8_letsSpeak_2 ?_
  refine J_if_lt 65 (by decide) dX8_letsSpeak_3 (fun c1 => ?_) (fun c1 => ?_)
  · exact absurd c1 (by decide)
  refine J_iconst (v := 0) (by decide) dX8_letsSpeak_6 ?_
  refine J_istore_n (lv' := [(0, .ref (ka S 30 0)), (1, .int 1), (2, .int 0)]) (by decide) rfl dX8_letsSpeak_7 ?_
  refine J_eq (lv' := [(0, .ref (ka S 30 0)), (1, .int (nI 1)), (2, .int (nI 0))]) rfl rfl rfl ?_
  refine l_X8_letsSpeak (r := 1) (X := mSpeak m) hB (by decide) (fun I1 L1 m1 hM1a hn1 hmc1 hI1 hX1 => ?_) (mC m2) 0 I2 L2 m2 (by omega) hM2a hn2 rfl (hI2.mono (by omega)) hX2
  refine J_eq (lv' := [(0, .ref (ka S 30 0)), (1, .int 1)]) rfl rfl rfl ?_
  refine J_iinc (v := 0) (lv' := [(0, .ref (ka S 30 0)), (1, .int 0)]) 1 rfl (by decide) (by decide) rfl dX8_letsSpeak_59 ?_
  refine J_goto 2 (by decide) dX8_letsSpeak_62 ?_
  refine J_iload_n 1 rfl dX8_letsSpeak_2 ?_
  refine J_if_lt 65 (by decide) dX8_letsSpeak_3 (fun c1 => ?_) (fun c1 => ?_)
  · exact absurd c1 (by decide)
  refine J_iconst (v := 0) (by decide) dX8_letsSpeak_6 ?_
  refine J_istore_n (lv' := [(0, .ref (ka S 30 0)), (1, .int 0), (2, .int 0)]) (by decide) rfl dX8_letsSpeak_7 ?_
  refine J_eq (lv' := [(0, .ref (ka S 30 0)), (1, .int (nI 0)), (2, .int (nI 0))]) rfl rfl rfl ?_
  refine l_X8_letsSpeak (r := 0) (X := mSpeak m) hB (by decide) (fun I0 L0 m0 hM0a hn0 hmc0 hI0 hX0 => ?_) (mC m1) 0 I1 L1 m1 (by omega) hM1a hn1 rfl (hI1.mono (by omega)) hX1
  refine J_eq (lv' := [(0, .ref (ka S 30 0)), (1, .int 0)]) rfl rfl rfl ?_
  refine J_iinc (v := (-1)) (lv' := [(0, .ref (ka S 30 0)), (1, .int (-1))]) 1 rfl (by decide) (by decide) rfl dX8_letsSpeak_59 ?_
  refine J_goto 2 (by decide) dX8_letsSpeak_62 ?_
  refine J_iload_n 1 rfl dX8_letsSpeak_2 ?_
  refine J_if_lt 65 (by decide) dX8_letsSpeak_3 (fun c1 => ?_) (fun c1 => ?_)
  rotate_left
  · exact absurd (by decide) c1
  exact J_return rfl dX8_letsSpeak_65 (⟨rfl, _, _, rfl, by rw [← hX0, show mT 600 m0 = m0 from mT_end (Nat.le_refl _)] ; exact hM0a⟩) (by omega) (by omega)

