/-! the model: the line; isInOrder -/
section ML
variable {m : Mu} {I : kI} {R : kRf} {rc : Nat → Nat} {ln qu : List Nat} {B : Nat}
def lnV (r : Option Nat) : Int32 := match r with
  | none => 0
  | some c => nI c
def lnC (r : Option Nat) : Int32 := match r with
  | none => 1
  | some _ => 0
theorem ln_idx (hL : relL m I R rc ln qu) {c q : Nat} (hc : c < mC m) (hw : mWait m c = true) (hq : key m c = q) : ln[wcnt m q]? = some c := by
  obtain ⟨j, hj⟩ := List.mem_iff_getElem?.mp ((hL.2.2.2.2.2.1 c).mpr ⟨hc, hw⟩)
  have e := cnt_at hL hj
  rw [wcnt_ln hL q]
  rw [hq] at e
  rw [e]; exact hj
theorem wcnt_row (hI : Inv m B) {r : Nat} (hr : r ≤ 3) : wcnt m (150 * (3 - r) + mC m) = wcnt m (150 * (3 - r) + 150) := by
  have h150 := hI.2.2.1
  symm
  refine wcnt_skip (by omega) (fun d hd hw hk => ?_)
  obtain ⟨k, k1, k2, k3⟩ := rank4 (rank_in hI.2.2.2.1 hd)
  unfold key at hk ⊢
  rw [k3] at hk ⊢
  omega
theorem wcnt_no (hI : Inv m B) {q c : Nat} (hq : q < 600) (hqc : q % 150 = c) (h : mWait m c = true → mRank m c ≠ nI (3 - q / 150)) : wcnt m (q + 1) = wcnt m q := by
  refine wcnt_skip (by omega) (fun d hd hw hk => ?_)
  have hne : key m d ≠ q := by
    intro z
    obtain ⟨e1, e2⟩ := (key_turn hI hd hq).mp z
    rw [hqc] at e1
    subst e1
    exact h hw e2
  omega
theorem wcnt_all (hI : Inv m B) (hL : relL m I R rc ln qu) : wcnt m 600 = ln.length := by
  rw [wcnt_ln hL 600]
  refine List.countP_eq_length.mpr (fun x hx => ?_)
  have h1 := (hL.2.2.2.2.2.1 x).mp hx
  have h2 := (key_in hI h1.1).2
  exact decide_eq_true (by omega)
theorem lnAt_none {x : Int32} (h : ∀ i, i < ln.length → x ≠ nI i) (hl : ln.length ≤ 24) : lnAt ln x = none := by
  cases hx : lnAt ln x with
  | none => rfl
  | some c =>
    exfalso
    unfold lnAt at hx
    split at hx
    · next h0 =>
      obtain ⟨k, hk, rfl⟩ := nI_of (x := x) (by grind)
      rw [nI_toNat hk] at hx
      exact h k (List.getElem?_eq_some_iff.mp hx).1 rfl
    · cases hx
def inOk (m : Mu) (c : Nat) : Bool := !(if m.1 55 c = 119 then mCan m c else (decide (m.1 55 c = 115) && decide (m.1 56 c < nI (mFirst m c))))
theorem inOk_eq (hL : relL m I R rc ln qu) : (!ln.any (fun c => mCan m c) && (List.range (mC m)).all (fun c => !(mSpk m c && decide (m.1 56 c < nI (mFirst m c))))) = (List.range (mC m)).all (inOk m) := by
  rw [Bool.eq_iff_iff]
  simp only [Bool.and_eq_true, Bool.not_eq_true', List.any_eq_false, List.all_eq_true, List.mem_range]
  constructor
  · intro ⟨h1, h2⟩ c hc
    unfold inOk
    by_cases hw : m.1 55 c = 119
    · rw [if_pos hw]
      have := h1 c ((hL.2.2.2.2.2.1 c).mpr ⟨hc, decide_eq_true hw⟩)
      simp [this]
    · rw [if_neg hw]
      have := h2 c hc
      show (!(mSpk m c && decide (m.1 56 c < nI (mFirst m c)))) = true
      rw [this]; rfl
  · intro h
    refine ⟨fun c hc => ?_, fun c hc => ?_⟩
    · have h1 := (hL.2.2.2.2.2.1 c).mp hc
      have h2 := h c h1.1
      unfold inOk at h2
      rw [if_pos (of_decide_eq_true h1.2)] at h2
      simpa using h2
    · have h2 := h c hc
      unfold inOk at h2
      by_cases hw : m.1 55 c = 119
      · have : mSpk m c = false := by unfold mSpk; rw [hw]; decide
        rw [this]; rfl
      · rw [if_neg hw] at h2
        exact nb_f h2
end ML

set_option maxRecDepth 20000 in
set_option maxHeartbeats 1000000 in
theorem l_X8_lined {cy : Nat → ClassId} {S : Nat → Nat → Nat} {I : kI} {L : kL} {R : kRf} {m : Mu} {cd x : Int32} {r : Nat} (hM : MR m cd I L) {Ic : kI} {Lc : kL} {Rc : kRf} {LPc : List Nat} {rc : Nat → Nat} {ln qu : List Nat} {lg B : Nat} (hR : Rel m Ic Lc Rc LPc rc ln qu lg) (hI : Inv m B) (hB : B + 90000 < 2 ^ 30) (hr : r ≤ 3) (kk : (∀ i, i < wcnt m (150 * (3 - r) + 150) → x ≠ nI i) → J yX8_lined.cls yX8_lined.name cX8_lined 5 (some .int) 2 0 0 cy (fun r w' => r = some (.int (lnV (lnAt ln x))) ∧ MX cy S R m (lnC (lnAt ln x)) w') kF 70 [(0, .ref (ka S 30 0)), (1, .int x), (2, .int (nI (wcnt m (150 * (3 - r) + 150)))), (3, .int (nI r))] [] (wm cy S I L R) 0 0) : ∀ (j c : Nat), c + j = mC m → (∀ i, i < wcnt m (150 * (3 - r) + c) → x ≠ nI i) → J yX8_lined.cls yX8_lined.name cX8_lined 5 (some .int) 2 0 0 cy (fun r w' => r = some (.int (lnV (lnAt ln x))) ∧ MX cy S R m (lnC (lnAt ln x)) w') kF 11 [(0, .ref (ka S 30 0)), (1, .int x), (2, .int (nI (wcnt m (150 * (3 - r) + c)))), (3, .int (nI r)), (4, .int (nI c))] [] (wm cy S I L R) 0 0 := by
  have hn : mN m := ⟨hR.1.1, hR.2.1.1⟩
  have h10 := hI.1
  have h150 := hI.2.2.1
  have hg0 := inv_g hI (by omega)
  have hkk := hI.2.2.2.1
  have hh := hI.2.2.2.2.1
  have hL := hR.2.2.2.1
  intro j
  induction j with
  | zero =>
    intro c hc hno
    have hc : c = mC m := by omega
    subst hc
    have e := wcnt_row hI hr
    refine J_iload 4 rfl dX8_lined_11 ?_
    refine J_aload_n 0 rfl dX8_lined_13 ?_
    refine gf_8_135 n30 dX8_lined_14 ?_
    refine J_topeq (nI (mC m)) ((hM.1 30 10 rfl).trans (by exact hn.2)) ?_
    refine J_icmp_ge 70 (by decide) dX8_lined_17 (fun c1 => ?_) (fun c1 => ?_)
    rotate_left
    · exfalso
      have Nc1 : ¬ ((mC m) ≤ (mC m)) := fun q => c1 ((nI_leI (a := (mC m)) (b := (mC m)) (by omega) (by omega)).mpr q)
      omega
    have Nc1 : (mC m) ≤ (mC m) := (nI_leI (a := (mC m)) (b := (mC m)) (by omega) (by omega)).mp c1
    refine J_sub (lv' := [(0, .ref (ka S 30 0)), (1, .int x), (2, .int (nI (wcnt m (150 * (3 - r) + mC m)))), (3, .int (nI r))]) [0, 1, 2, 3] rfl ?_
    rw [e] at hno ⊢
    exact kk hno
  | succ j ih =>
    intro c hc hno
    have hcm : c < mC m := by omega
    have hq600 : 150 * (3 - r) + c < 600 := by omega
    have hqm : (150 * (3 - r) + c) % 150 = c := by omega
    have hqd : 3 - (150 * (3 - r) + c) / 150 = r := by omega
    refine J_iload 4 rfl dX8_lined_11 ?_
    refine J_aload_n 0 rfl dX8_lined_13 ?_
    refine gf_8_135 n30 dX8_lined_14 ?_
    refine J_topeq (nI (mC m)) ((hM.1 30 10 rfl).trans (by exact hn.2)) ?_
    refine J_icmp_ge 70 (by decide) dX8_lined_17 (fun c1 => ?_) (fun c1 => ?_)
    · exfalso
      have Nc1 : (mC m) ≤ c := (nI_leI (a := (mC m)) (b := c) (by omega) (by omega)).mp c1
      omega
    have Nc1 : ¬ ((mC m) ≤ c) := fun q => c1 ((nI_leI (a := (mC m)) (b := c) (by omega) (by omega)).mpr q)
    refine J_aload_n 0 rfl dX8_lined_20 ?_
    refine gf_8_48 n30 dX8_lined_21 ?_
    refine J_iload 4 rfl dX8_lined_24 ?_
    refine J_cald c 1 n55 rfl rfl (vp_in_nI (by omega) (by decide)) (nI_toNat (by omega)) dX8_lined_26 ?_
    refine J_topeq (m.1 55 c) (hM.1 55 c rfl) ?_
    refine J_bipush (v := 119) (by decide) dX8_lined_27 ?_
    refine J_icmp_ne 64 (by decide) dX8_lined_29 (fun c2 => ?_) (fun c2 => ?_)
    · skip
      refine J_iinc (v := (nI (c + 1))) (lv' := [(0, .ref (ka S 30 0)), (1, .int x), (2, .int (nI (wcnt m (150 * (3 - r) + c)))), (3, .int (nI r)), (4, .int (nI (c + 1)))]) 4 rfl (by exact nI_add c 1) (by decide) rfl dX8_lined_64 ?_
      refine J_goto 11 (by decide) dX8_lined_67 ?_
      have e : wcnt m (150 * (3 - r) + c + 1) = wcnt m (150 * (3 - r) + c) := wcnt_no hI hq600 hqm (fun hw => by rw [hqd]; first | assumption | exact absurd (of_decide_eq_true hw) (by assumption))
      refine J_eq (lv' := [(0, .ref (ka S 30 0)), (1, .int x), (2, .int (nI (wcnt m (150 * (3 - r) + c + 1)))), (3, .int (nI r)), (4, .int (nI (c + 1)))]) rfl (by rw [e]) rfl ?_
      exact ih (c + 1) (by omega) (fun i hi => hno i (by have : wcnt m (150 * (3 - r) + (c + 1)) = wcnt m (150 * (3 - r) + c) := e; omega))
    · skip
      refine J_aload_n 0 rfl dX8_lined_32 ?_
      refine gf_8_41 n30 dX8_lined_33 ?_
      refine J_iload 4 rfl dX8_lined_36 ?_
      refine J_cald c 1 n53 rfl rfl (vp_in_nI (by omega) (by decide)) (nI_toNat (by omega)) dX8_lined_38 ?_
      refine J_topeq (m.1 53 c) (hM.1 53 c rfl) ?_
      refine cv_8_145 (i := 0) (cells' := 0) (slots' := 0) dX8_lined_39 (c_X8_rank) ⟨by decide, by decide⟩ rfl rfl (by decide) (by decide) (Nat.le_of_ble_eq_true rfl) (fun _ _ r4 => ?_) (fun _ _ h => h.elim)
      obtain ⟨rfl, rfl⟩ := r4
      refine J_eq (st' := [.int (wghtF (m.1 53 c))]) rfl rfl rfl ?_
      refine J_topeq (mRank m c) rfl ?_
      refine J_iload_n 3 rfl dX8_lined_42 ?_
      refine J_icmp_eq 49 (by decide) dX8_lined_43 (fun c5 => ?_) (fun c5 => ?_)
      · skip
        refine J_iload_n 2 rfl dX8_lined_49 ?_
        refine J_iload_n 1 rfl dX8_lined_50 ?_
        refine J_icmp_ne 61 (by decide) dX8_lined_51 (fun c6 => ?_) (fun c6 => ?_)
        · skip
          refine J_iinc (v := (nI (wcnt m (150 * (3 - r) + c) + 1))) (lv' := [(0, .ref (ka S 30 0)), (1, .int x), (2, .int (nI (wcnt m (150 * (3 - r) + c) + 1))), (3, .int (nI r)), (4, .int (nI c))]) 2 rfl (by exact nI_add (wcnt m (150 * (3 - r) + c)) 1) (by decide) rfl dX8_lined_61 ?_
          refine J_iinc (v := (nI (c + 1))) (lv' := [(0, .ref (ka S 30 0)), (1, .int x), (2, .int (nI (wcnt m (150 * (3 - r) + c) + 1))), (3, .int (nI r)), (4, .int (nI (c + 1)))]) 4 rfl (by exact nI_add c 1) (by decide) rfl dX8_lined_64 ?_
          refine J_goto 11 (by decide) dX8_lined_67 ?_
          have hwt : mWait m c = true := decide_eq_true (by assumption)
          have hk : key m c = ((150 * (3 - r) + c : Nat) : Int) := (key_turn hI hcm hq600).mpr ⟨hqm.symm, by rw [hqd]; assumption⟩
          have e := wcnt_next hI hcm hwt hk
          refine J_eq (lv' := [(0, .ref (ka S 30 0)), (1, .int x), (2, .int (nI (wcnt m (150 * (3 - r) + c + 1)))), (3, .int (nI r)), (4, .int (nI (c + 1)))]) rfl (by rw [e]) rfl ?_
          refine ih (c + 1) (by omega) (fun i hi => ?_)
          by_cases f : i = wcnt m (150 * (3 - r) + c)
          · subst f; intro z; exact absurd z.symm (by assumption)
          · exact hno i (by have : wcnt m (150 * (3 - r) + (c + 1)) = wcnt m (150 * (3 - r) + c) + 1 := e; omega)
        · skip
          refine J_aload_n 0 rfl dX8_lined_54 ?_
          refine J_iload 4 rfl dX8_lined_55 ?_
          refine cv_8_129 (cells' := 0) (slots' := 0) dX8_lined_57 (c_X8_tells (x := (nI c)) hM) n30 ⟨by decide, by decide⟩ rfl rfl (by decide) (by decide) (Nat.le_of_ble_eq_true rfl) (fun _ _ r10 => ?_) (fun _ _ h => h.elim)
          obtain ⟨rfl, I9, L9, rfl, hM9⟩ := r10
          refine J_eq (st' := [.int (nI c)]) rfl rfl rfl ?_
          exact J_ireturn rfl (by first | rfl | assumption | simp [kb_nar]) dX8_lined_60 ((by
        have hwt : mWait m c = true := decide_eq_true (by assumption)
        have hk : key m c = ((150 * (3 - r) + c : Nat) : Int) := (key_turn hI hcm hq600).mpr ⟨hqm.symm, by rw [hqd]; assumption⟩
        have hx : lnAt ln x = some c := by
          rw [← (show (nI (wcnt m (150 * (3 - r) + c))) = x by assumption), lnAt_n (by have : wcnt m (150 * (3 - r) + c) ≤ (List.range (mC m)).length := List.countP_le_length; rw [List.length_range] at this; omega)]
          exact ln_idx hL hcm hwt hk
        rw [hx]; exact ⟨rfl, _, _, rfl, hM9⟩)) (by omega) (by omega)
      · skip
        refine J_goto 64 (by decide) dX8_lined_46 ?_
        refine J_iinc (v := (nI (c + 1))) (lv' := [(0, .ref (ka S 30 0)), (1, .int x), (2, .int (nI (wcnt m (150 * (3 - r) + c)))), (3, .int (nI r)), (4, .int (nI (c + 1)))]) 4 rfl (by exact nI_add c 1) (by decide) rfl dX8_lined_64 ?_
        refine J_goto 11 (by decide) dX8_lined_67 ?_
        have e : wcnt m (150 * (3 - r) + c + 1) = wcnt m (150 * (3 - r) + c) := wcnt_no hI hq600 hqm (fun hw => by rw [hqd]; first | assumption | exact absurd (of_decide_eq_true hw) (by assumption))
        refine J_eq (lv' := [(0, .ref (ka S 30 0)), (1, .int x), (2, .int (nI (wcnt m (150 * (3 - r) + c + 1)))), (3, .int (nI r)), (4, .int (nI (c + 1)))]) rfl (by rw [e]) rfl ?_
        exact ih (c + 1) (by omega) (fun i hi => hno i (by have : wcnt m (150 * (3 - r) + (c + 1)) = wcnt m (150 * (3 - r) + c) := e; omega))

set_option maxRecDepth 20000 in
set_option maxHeartbeats 1000000 in
theorem c_X8_lined {cy : Nat → ClassId} {S : Nat → Nat → Nat} {I : kI} {L : kL} {R : kRf} {m : Mu} {cd x : Int32} (hM : MR m cd I L) {Ic : kI} {Lc : kL} {Rc : kRf} {LPc : List Nat} {rc : Nat → Nat} {ln qu : List Nat} {lg B : Nat} (hR : Rel m Ic Lc Rc LPc rc ln qu lg) (hI : Inv m B) (hB : B + 90000 < 2 ^ 30) : Con yX8_lined cX8_lined 5 (some .int) 2 0 0 cy [.ref (ka S 30 0), .int x] (wm cy S I L R) (fun r w' => r = some (.int (lnV (lnAt ln x))) ∧ MX cy S R m (lnC (lnAt ln x)) w') kF := by
  have hn : mN m := ⟨hR.1.1, hR.2.1.1⟩
  have h10 := hI.1
  have h150 := hI.2.2.1
  have hg0 := inv_g hI (by omega)
  have hkk := hI.2.2.2.1
  have hh := hI.2.2.2.2.1
  have hL := hR.2.2.2.1
  have e0 : wcnt m 0 = 0 := by
    refine List.countP_eq_zero.mpr fun x hx => ?_
    have := key_in hI (List.mem_range.mp hx)
    simp
    intro _
    omega
  refine Con_of (by decide +kernel) (Nat.le_of_ble_eq_true rfl) ?_
  refine J_eq (lv' := [(0, .ref (ka S 30 0)), (1, .int x)]) rfl rfl rfl ?_
  refine J_iconst (v := 0) (by decide) dX8_lined_0 ?_
  refine J_istore_n (lv' := [(0, .ref (ka S 30 0)), (1, .int x), (2, .int 0)]) (by decide) rfl dX8_lined_1 ?_
  refine J_iconst (v := 3) (by decide) dX8_lined_2 ?_
  refine J_istore_n (lv' := [(0, .ref (ka S 30 0)), (1, .int x), (2, .int 0), (3, .int 3)]) (by decide) rfl dX8_lined_3 ?_
  refine J_eq (lv' := [(0, .ref (ka S 30 0)), (1, .int x), (2, .int (nI (wcnt m 0))), (3, .int 3)]) rfl (by rw [e0]; rfl) rfl ?_
  refine J_iload_n 3 rfl dX8_lined_4 ?_
  refine J_if_lt 76 (by decide) dX8_lined_5 (fun c1 => ?_) (fun c1 => ?_)
  · exact absurd c1 (by decide)
  refine J_iconst (v := 0) (by decide) dX8_lined_8 ?_
  refine J_istore (lv' := [(0, .ref (ka S 30 0)), (1, .int x), (2, .int (nI (wcnt m 0))), (3, .int 3), (4, .int 0)]) (by decide) rfl dX8_lined_9 ?_
  refine J_eq (lv' := [(0, .ref (ka S 30 0)), (1, .int x), (2, .int (nI (wcnt m (150 * (3 - 3) + 0)))), (3, .int (nI 3)), (4, .int (nI 0))]) rfl rfl rfl ?_
  refine l_X8_lined (r := 3) hM hR hI hB (by decide) (fun hno3 => ?_) (mC m) 0 (by omega) (fun i hi => absurd hi (by show ¬ i < wcnt m 0; rw [e0]; omega))
  refine J_eq (lv' := [(0, .ref (ka S 30 0)), (1, .int x), (2, .int (nI (wcnt m 150))), (3, .int 3)]) rfl rfl rfl ?_
  refine J_iinc (v := 2) (lv' := [(0, .ref (ka S 30 0)), (1, .int x), (2, .int (nI (wcnt m 150))), (3, .int 2)]) 3 rfl (by decide) (by decide) rfl dX8_lined_70 ?_
  refine J_goto 4 (by decide) dX8_lined_73 ?_
  refine J_iload_n 3 rfl dX8_lined_4 ?_
  refine J_if_lt 76 (by decide) dX8_lined_5 (fun c1 => ?_) (fun c1 => ?_)
  · exact absurd c1 (by decide)
  refine J_iconst (v := 0) (by decide) dX8_lined_8 ?_
  refine J_istore (lv' := [(0, .ref (ka S 30 0)), (1, .int x), (2, .int (nI (wcnt m 150))), (3, .int 2), (4, .int 0)]) (by decide) rfl dX8_lined_9 ?_
  refine J_eq (lv' := [(0, .ref (ka S 30 0)), (1, .int x), (2, .int (nI (wcnt m (150 * (3 - 2) + 0)))), (3, .int (nI 2)), (4, .int (nI 0))]) rfl rfl rfl ?_
  refine l_X8_lined (r := 2) hM hR hI hB (by decide) (fun hno2 => ?_) (mC m) 0 (by omega) hno3
  refine J_eq (lv' := [(0, .ref (ka S 30 0)), (1, .int x), (2, .int (nI (wcnt m 300))), (3, .int 2)]) rfl rfl rfl ?_
  refine J_iinc (v := 1) (lv' := [(0, .ref (ka S 30 0)), (1, .int x), (2, .int (nI (wcnt m 300))), (3, .int 1)]) 3 rfl (by decide) (by decide) rfl dX8_lined_70 ?_
  refine J_goto 4 (by decide) dX8_lined_73 ?_
  refine J_iload_n 3 rfl dX8_lined_4 ?_
  refine J_if_lt 76 (by decide) dX8_lined_5 (fun c1 => ?_) (fun c1 => ?_)
  · exact absurd c1 (by decide)
  refine J_iconst (v := 0) (by decide) dX8_lined_8 ?_
  refine J_istore (lv' := [(0, .ref (ka S 30 0)), (1, .int x), (2, .int (nI (wcnt m 300))), (3, .int 1), (4, .int 0)]) (by decide) rfl dX8_lined_9 ?_
  refine J_eq (lv' := [(0, .ref (ka S 30 0)), (1, .int x), (2, .int (nI (wcnt m (150 * (3 - 1) + 0)))), (3, .int (nI 1)), (4, .int (nI 0))]) rfl rfl rfl ?_
  refine l_X8_lined (r := 1) hM hR hI hB (by decide) (fun hno1 => ?_) (mC m) 0 (by omega) hno2
  refine J_eq (lv' := [(0, .ref (ka S 30 0)), (1, .int x), (2, .int (nI (wcnt m 450))), (3, .int 1)]) rfl rfl rfl ?_
  refine J_iinc (v := 0) (lv' := [(0, .ref (ka S 30 0)), (1, .int x), (2, .int (nI (wcnt m 450))), (3, .int 0)]) 3 rfl (by decide) (by decide) rfl dX8_lined_70 ?_
  refine J_goto 4 (by decide) dX8_lined_73 ?_
  refine J_iload_n 3 rfl dX8_lined_4 ?_
  refine J_if_lt 76 (by decide) dX8_lined_5 (fun c1 => ?_) (fun c1 => ?_)
  · exact absurd c1 (by decide)
  refine J_iconst (v := 0) (by decide) dX8_lined_8 ?_
  refine J_istore (lv' := [(0, .ref (ka S 30 0)), (1, .int x), (2, .int (nI (wcnt m 450))), (3, .int 0), (4, .int 0)]) (by decide) rfl dX8_lined_9 ?_
  refine J_eq (lv' := [(0, .ref (ka S 30 0)), (1, .int x), (2, .int (nI (wcnt m (150 * (3 - 0) + 0)))), (3, .int (nI 0)), (4, .int (nI 0))]) rfl rfl rfl ?_
  refine l_X8_lined (r := 0) hM hR hI hB (by decide) (fun hno0 => ?_) (mC m) 0 (by omega) hno1
  refine J_eq (lv' := [(0, .ref (ka S 30 0)), (1, .int x), (2, .int (nI (wcnt m 600))), (3, .int 0)]) rfl rfl rfl ?_
  refine J_iinc (v := (-1)) (lv' := [(0, .ref (ka S 30 0)), (1, .int x), (2, .int (nI (wcnt m 600))), (3, .int (-1))]) 3 rfl (by decide) (by decide) rfl dX8_lined_70 ?_
  refine J_goto 4 (by decide) dX8_lined_73 ?_
  refine J_iload_n 3 rfl dX8_lined_4 ?_
  refine J_if_lt 76 (by decide) dX8_lined_5 (fun c1 => ?_) (fun c1 => ?_)
  rotate_left
  · exact absurd (by decide) c1
  refine J_aload_n 0 rfl dX8_lined_76 ?_
  refine J_iconst (v := 1) (by decide) dX8_lined_77 ?_
  refine pf_8_78 n30 dX8_lined_78 ?_
  have hM2 := MR_cd hM (v := 1)
  refine J_iconst (v := 0) (by decide) dX8_lined_81 ?_
  exact J_ireturn rfl (by first | rfl | assumption | simp [kb_nar]) dX8_lined_82 ((by
    have e : lnAt ln x = none := lnAt_none (by rw [← wcnt_all hI hL]; exact hno0) hL.2.1
    rw [e]; exact ⟨rfl, _, _, rfl, hM2⟩)) (by omega) (by omega)

set_option maxRecDepth 20000 in
set_option maxHeartbeats 1000000 in
theorem c_X8_inLine_s {cy : Nat → ClassId} {S : Nat → Nat → Nat} {I : kI} {L : kL} {R : kRf} {m : Mu} {cd : Int32} {x : Int32} (hM : MR m cd I L) {Ic : kI} {Lc : kL} {Rc : kRf} {LPc : List Nat} {rc : Nat → Nat} {ln qu : List Nat} {lg B : Nat} (hR : Rel m Ic Lc Rc LPc rc ln qu lg) (hI : Inv m B) (hB : B + 90000 < 2 ^ 30)  : Con yX8_inLine cX8_inLine 2 (some .int) 7 0 0 cy [.ref (ka S 30 0), .int x] (wm cy S I L R) (fun r w' => r = some (.int (lnV (lnAt ln x))) ∧ MX cy S R m (lnC (lnAt ln x)) w') kF := by
  have hn : mN m := ⟨hR.1.1, hR.2.1.1⟩
  have h10 := hI.1
  have h150 := hI.2.2.1
  have hg0 := inv_g hI (by omega)
  have hkk := hI.2.2.2.1
  have hh := hI.2.2.2.2.1
  refine Con_of (by decide +kernel) (Nat.le_of_ble_eq_true rfl) ?_
  refine J_eq (lv' := [(0, .ref (ka S 30 0)), (1, .int x)]) rfl rfl rfl ?_
  refine J_aload_n 0 rfl dX8_inLine_0 ?_
  refine J_iload_n 1 rfl dX8_inLine_1 ?_
  refine cv_8_206 (cells' := 0) (slots' := 0) dX8_inLine_2 (c_X8_lined hM hR hI hB) n30 ⟨by decide, by decide⟩ rfl rfl (by decide) (by decide) (Nat.le_of_ble_eq_true rfl) (fun _ _ r2 => ?_) (fun _ _ h => h.elim)
  obtain ⟨rfl, I1, L1, rfl, hM1⟩ := r2
  refine J_eq (st' := [.int (lnV (lnAt ln x))]) rfl rfl rfl ?_
  exact J_ireturn rfl (by first | rfl | assumption | simp [kb_nar]) dX8_inLine_5 (⟨rfl, _, _, rfl, hM1⟩) (by omega) (by omega)

set_option maxRecDepth 20000 in
set_option maxHeartbeats 1000000 in
theorem c_X8_inLineByCounting_s {cy : Nat → ClassId} {S : Nat → Nat → Nat} {I : kI} {L : kL} {R : kRf} {m : Mu} {cd : Int32} {x : Int32} (hM : MR m cd I L) {Ic : kI} {Lc : kL} {Rc : kRf} {LPc : List Nat} {rc : Nat → Nat} {ln qu : List Nat} {lg B : Nat} (hR : Rel m Ic Lc Rc LPc rc ln qu lg) (hI : Inv m B) (hB : B + 90000 < 2 ^ 30)  : Con yX8_inLineByCounting cX8_inLineByCounting 2 (some .int) 7 0 0 cy [.ref (ka S 30 0), .int x] (wm cy S I L R) (fun r w' => r = some (.int (lnV (lnAt ln x))) ∧ MX cy S R m (lnC (lnAt ln x)) w') kF := by
  have hn : mN m := ⟨hR.1.1, hR.2.1.1⟩
  have h10 := hI.1
  have h150 := hI.2.2.1
  have hg0 := inv_g hI (by omega)
  have hkk := hI.2.2.2.1
  have hh := hI.2.2.2.2.1
  refine Con_of (by decide +kernel) (Nat.le_of_ble_eq_true rfl) ?_
  refine J_eq (lv' := [(0, .ref (ka S 30 0)), (1, .int x)]) rfl rfl rfl ?_
  refine J_aload_n 0 rfl dX8_inLineByCounting_0 ?_
  refine J_iload_n 1 rfl dX8_inLineByCounting_1 ?_
  refine cv_8_206 (cells' := 0) (slots' := 0) dX8_inLineByCounting_2 (c_X8_lined hM hR hI hB) n30 ⟨by decide, by decide⟩ rfl rfl (by decide) (by decide) (Nat.le_of_ble_eq_true rfl) (fun _ _ r2 => ?_) (fun _ _ h => h.elim)
  obtain ⟨rfl, I1, L1, rfl, hM1⟩ := r2
  refine J_eq (st' := [.int (lnV (lnAt ln x))]) rfl rfl rfl ?_
  exact J_ireturn rfl (by first | rfl | assumption | simp [kb_nar]) dX8_inLineByCounting_5 (⟨rfl, _, _, rfl, hM1⟩) (by omega) (by omega)

set_option maxRecDepth 20000 in
set_option maxHeartbeats 1000000 in
theorem l_X8_isInOrder {cy : Nat → ClassId} {S : Nat → Nat → Nat} {R : kRf} {m : Mu} (hn : mN m) {B : Nat} (hI : Inv m B) (hB : B + 90000 < 2 ^ 30) : ∀ (j c : Nat) (I : kI) (L : kL), c + j = mC m → MR m 0 I L → (∀ i, i < c → inOk m i = true) → J yX8_isInOrder.cls yX8_isInOrder.name cX8_isInOrder 2 (some .boolean) 6 0 0 cy (fun r w' => r = some (.int (kb ((List.range (mC m)).all (inOk m)))) ∧ MX cy S R m 0 w') kF 7 [(0, .ref (ka S 30 0)), (1, .int (nI c))] [] (wm cy S I L R) 0 0 := by
  have h150 := hI.2.2.1
  intro j
  induction j with
  | zero =>
    intro c I L hc hM hno
    have hc : c = mC m := by omega
    subst hc
    have e : (List.range (mC m)).all (inOk m) = true := List.all_eq_true.mpr (fun i hi => hno i (List.mem_range.mp hi))
    refine J_iload_n 1 rfl dX8_isInOrder_7 ?_
    refine J_aload_n 0 rfl dX8_isInOrder_8 ?_
    refine gf_8_135 n30 dX8_isInOrder_9 ?_
    refine J_topeq (nI (mC m)) ((hM.1 30 10 rfl).trans (by exact hn.2)) ?_
    refine J_icmp_ge 70 (by decide) dX8_isInOrder_12 (fun c1 => ?_) (fun c1 => ?_)
    rotate_left
    · exfalso
      have Nc1 : ¬ ((mC m) ≤ (mC m)) := fun q => c1 ((nI_leI (a := (mC m)) (b := (mC m)) (by omega) (by omega)).mpr q)
      omega
    have Nc1 : (mC m) ≤ (mC m) := (nI_leI (a := (mC m)) (b := (mC m)) (by omega) (by omega)).mp c1
    refine J_iconst (v := 1) (by decide) dX8_isInOrder_70 ?_
    exact J_ireturn rfl (by first | rfl | assumption | simp [kb_nar]) dX8_isInOrder_71 (⟨by rw [e]; rfl, _, _, rfl, hM⟩) (by omega) (by omega)
  | succ j ih =>
    intro c I L hc hM hno
    have hcm : c < mC m := by omega
    have hall : inOk m c = false → (List.range (mC m)).all (inOk m) = false := fun h => List.all_eq_false.mpr ⟨c, List.mem_range.mpr hcm, by rw [h]; decide⟩
    have hf1 : mFirst m c ≤ 1 := by rcases mFirst_01 (m := m) (c := c) with q | q <;> omega
    refine J_iload_n 1 rfl dX8_isInOrder_7 ?_
    refine J_aload_n 0 rfl dX8_isInOrder_8 ?_
    refine gf_8_135 n30 dX8_isInOrder_9 ?_
    refine J_topeq (nI (mC m)) ((hM.1 30 10 rfl).trans (by exact hn.2)) ?_
    refine J_icmp_ge 70 (by decide) dX8_isInOrder_12 (fun c1 => ?_) (fun c1 => ?_)
    · exfalso
      have Nc1 : (mC m) ≤ c := (nI_leI (a := (mC m)) (b := c) (by omega) (by omega)).mp c1
      omega
    have Nc1 : ¬ ((mC m) ≤ c) := fun q => c1 ((nI_leI (a := (mC m)) (b := c) (by omega) (by omega)).mpr q)
    refine J_aload_n 0 rfl dX8_isInOrder_15 ?_
    refine gf_8_48 n30 dX8_isInOrder_16 ?_
    refine J_iload_n 1 rfl dX8_isInOrder_19 ?_
    refine J_cald c 1 n55 rfl rfl (vp_in_nI (by omega) (by decide)) (nI_toNat (by omega)) dX8_isInOrder_20 ?_
    refine J_topeq (m.1 55 c) (hM.1 55 c rfl) ?_
    refine J_bipush (v := 119) (by decide) dX8_isInOrder_21 ?_
    refine J_icmp_ne 37 (by decide) dX8_isInOrder_23 (fun c2 => ?_) (fun c2 => ?_)
    · skip
      refine J_aload_n 0 rfl dX8_isInOrder_37 ?_
      refine gf_8_48 n30 dX8_isInOrder_38 ?_
      refine J_iload_n 1 rfl dX8_isInOrder_41 ?_
      refine J_cald c 1 n55 rfl rfl (vp_in_nI (by omega) (by decide)) (nI_toNat (by omega)) dX8_isInOrder_42 ?_
      refine J_topeq (m.1 55 c) (hM.1 55 c rfl) ?_
      refine J_bipush (v := 115) (by decide) dX8_isInOrder_43 ?_
      refine J_icmp_ne 64 (by decide) dX8_isInOrder_45 (fun c3 => ?_) (fun c3 => ?_)
      · skip
        refine J_iinc (v := (nI (c + 1))) (lv' := [(0, .ref (ka S 30 0)), (1, .int (nI (c + 1)))]) 1 rfl (by exact nI_add c 1) (by decide) rfl dX8_isInOrder_64 ?_
        refine J_goto 7 (by decide) dX8_isInOrder_67 ?_
        have hok : inOk m c = true := by unfold inOk; first | (rw [if_pos (by assumption), show mCan m c = false from by first | exact kb_0.mp (by assumption)]; rfl) | (rw [if_neg (by assumption), decide_eq_false (p := m.1 55 c = 115) (by assumption)]; rfl) | (rw [if_neg (by assumption), decide_eq_false (p := m.1 56 c < nI (mFirst m c)) (by grind), Bool.and_false]; rfl)
        refine ih (c + 1) _ _ (by omega) hM (fun i hi => ?_)
        by_cases f : i = c
        · subst f; exact hok
        · exact hno i (by omega)
      · skip
        refine J_aload_n 0 rfl dX8_isInOrder_48 ?_
        refine gf_8_51 n30 dX8_isInOrder_49 ?_
        refine J_iload_n 1 rfl dX8_isInOrder_52 ?_
        refine J_iald c 0 n56 rfl rfl (vp_in_nI (by omega) (by decide)) (nI_toNat (by omega)) dX8_isInOrder_53 ?_
        refine J_topeq (m.1 56 c) (hM.1 56 c rfl) ?_
        refine J_aload_n 0 rfl dX8_isInOrder_54 ?_
        refine J_iload_n 1 rfl dX8_isInOrder_55 ?_
        refine cv_8_159 (cells' := 0) (slots' := 0) dX8_isInOrder_56 (c_X8_firstChannel hM (by omega)) n30 ⟨by decide, by decide⟩ rfl rfl (by decide) (by decide) (Nat.le_of_ble_eq_true rfl) (fun _ _ r5 => ?_) (fun _ _ h => h.elim)
        obtain ⟨rfl, rfl⟩ := r5
        refine J_eq (st' := [.int (nI (mFirst m c)), .int (m.1 56 c)]) rfl rfl rfl ?_
        refine J_icmp_ge 64 (by decide) dX8_isInOrder_59 (fun c6 => ?_) (fun c6 => ?_)
        · skip
          refine J_iinc (v := (nI (c + 1))) (lv' := [(0, .ref (ka S 30 0)), (1, .int (nI (c + 1)))]) 1 rfl (by exact nI_add c 1) (by decide) rfl dX8_isInOrder_64 ?_
          refine J_goto 7 (by decide) dX8_isInOrder_67 ?_
          have hok : inOk m c = true := by unfold inOk; first | (rw [if_pos (by assumption), show mCan m c = false from by first | exact kb_0.mp (by assumption)]; rfl) | (rw [if_neg (by assumption), decide_eq_false (p := m.1 55 c = 115) (by assumption)]; rfl) | (rw [if_neg (by assumption), decide_eq_false (p := m.1 56 c < nI (mFirst m c)) (by grind), Bool.and_false]; rfl)
          refine ih (c + 1) _ _ (by omega) hM (fun i hi => ?_)
          by_cases f : i = c
          · subst f; exact hok
          · exact hno i (by omega)
        · skip
          refine J_iconst (v := 0) (by decide) dX8_isInOrder_62 ?_
          exact J_ireturn rfl (by first | rfl | assumption | simp [kb_nar]) dX8_isInOrder_63 (⟨by rw [hall (by unfold inOk; first | (rw [if_pos (by assumption), show mCan m c = true from kb_n0.mp (by assumption)]; rfl) | (rw [if_neg (by assumption), decide_eq_true (p := m.1 55 c = 115) (by assumption), decide_eq_true (p := m.1 56 c < nI (mFirst m c)) (by grind)]; rfl))]; rfl, _, _, rfl, hM⟩) (by omega) (by omega)
    · skip
      refine J_aload_n 0 rfl dX8_isInOrder_26 ?_
      refine J_iload_n 1 rfl dX8_isInOrder_27 ?_
      refine cv_8_181 (cells' := 0) (slots' := 0) dX8_isInOrder_28 (c_X8_canBegin hM hn hI hcm) n30 ⟨by decide, by decide⟩ rfl rfl (by decide) (by decide) (Nat.le_of_ble_eq_true rfl) (fun _ _ r9 => ?_) (fun _ _ h => h.elim)
      obtain ⟨rfl, I8, L8, rfl, hM8⟩ := r9
      refine J_eq (st' := [.int (kb (mCan m c))]) rfl rfl rfl ?_
      refine J_if_eq 64 (by decide) dX8_isInOrder_31 (fun c10 => ?_) (fun c10 => ?_)
      · skip
        refine J_iinc (v := (nI (c + 1))) (lv' := [(0, .ref (ka S 30 0)), (1, .int (nI (c + 1)))]) 1 rfl (by exact nI_add c 1) (by decide) rfl dX8_isInOrder_64 ?_
        refine J_goto 7 (by decide) dX8_isInOrder_67 ?_
        have hok : inOk m c = true := by unfold inOk; first | (rw [if_pos (by assumption), show mCan m c = false from by first | exact kb_0.mp (by assumption)]; rfl) | (rw [if_neg (by assumption), decide_eq_false (p := m.1 55 c = 115) (by assumption)]; rfl) | (rw [if_neg (by assumption), decide_eq_false (p := m.1 56 c < nI (mFirst m c)) (by grind), Bool.and_false]; rfl)
        refine ih (c + 1) _ _ (by omega) hM8 (fun i hi => ?_)
        by_cases f : i = c
        · subst f; exact hok
        · exact hno i (by omega)
      · skip
        refine J_goto 62 (by decide) dX8_isInOrder_34 ?_
        refine J_iconst (v := 0) (by decide) dX8_isInOrder_62 ?_
        exact J_ireturn rfl (by first | rfl | assumption | simp [kb_nar]) dX8_isInOrder_63 (⟨by rw [hall (by unfold inOk; first | (rw [if_pos (by assumption), show mCan m c = true from kb_n0.mp (by assumption)]; rfl) | (rw [if_neg (by assumption), decide_eq_true (p := m.1 55 c = 115) (by assumption), decide_eq_true (p := m.1 56 c < nI (mFirst m c)) (by grind)]; rfl))]; rfl, _, _, rfl, hM8⟩) (by omega) (by omega)

set_option maxRecDepth 20000 in
set_option maxHeartbeats 1000000 in
theorem c_X8_isInOrder_s {cy : Nat → ClassId} {S : Nat → Nat → Nat} {I : kI} {L : kL} {R : kRf} {m : Mu} {cd : Int32} (hM : MR m cd I L) {Ic : kI} {Lc : kL} {Rc : kRf} {LPc : List Nat} {rc : Nat → Nat} {ln qu : List Nat} {lg B : Nat} (hR : Rel m Ic Lc Rc LPc rc ln qu lg) (hI : Inv m B) (hB : B + 90000 < 2 ^ 30) : Con yX8_isInOrder cX8_isInOrder 2 (some .boolean) 6 0 0 cy [.ref (ka S 30 0)] (wm cy S I L R) (fun r w' => r = some (.int (kb ((List.range (mC m)).all (inOk m)))) ∧ MX cy S R m 0 w') kF := by
  have hn : mN m := ⟨hR.1.1, hR.2.1.1⟩
  have h10 := hI.1
  have h150 := hI.2.2.1
  have hg0 := inv_g hI (by omega)
  have hkk := hI.2.2.2.1
  have hh := hI.2.2.2.2.1
  refine Con_of (by decide +kernel) (Nat.le_of_ble_eq_true rfl) ?_
  refine J_eq (lv' := [(0, .ref (ka S 30 0))]) rfl rfl rfl ?_
  refine J_aload_n 0 rfl dX8_isInOrder_0 ?_
  refine J_iconst (v := 0) (by decide) dX8_isInOrder_1 ?_
  refine pf_8_78 n30 dX8_isInOrder_2 ?_
  have hM1 := MR_cd hM (v := 0)
  refine J_iconst (v := 0) (by decide) dX8_isInOrder_5 ?_
  refine J_istore_n (lv' := [(0, .ref (ka S 30 0)), (1, .int 0)]) (by decide) rfl dX8_isInOrder_6 ?_
  refine J_eq (lv' := [(0, .ref (ka S 30 0)), (1, .int (nI 0))]) rfl rfl rfl ?_
  exact (l_X8_isInOrder hn hI hB (mC m) 0 _ _ (by omega) hM1 (fun i hi => absurd hi (by omega)))

