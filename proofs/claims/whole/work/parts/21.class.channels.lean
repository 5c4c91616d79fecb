/-! Channels, its loops unrolled: what stands on the three channels is R 14 0 0, R 14 0 1, R 14 0 2 -/
def inLP (R : kRf) (k n : Nat) (LP : List Nat) : Prop := ∀ j a, j < n → R k 0 j = some a → a ∈ LP
def shF (I : kI) (v : Int32) (r : Option Nat) : Bool := match r with
  | none => false
  | some a => shrF I a v
def holdF (I : kI) (R : kRf) (v : Int32) : Option Nat := if shF I v (R 14 0 0) then R 14 0 0 else if shF I v (R 14 0 1) then R 14 0 1 else if shF I v (R 14 0 2) then R 14 0 2 else none
def busyF (R : kRf) : Int32 := (if R 14 0 0 = none then 0 else 1) + (if R 14 0 1 = none then 0 else 1) + (if R 14 0 2 = none then 0 else 1)
theorem shF_none {I : kI} {v : Int32} : shF I v none = false := rfl
theorem shF_some {I : kI} {v : Int32} {a : Nat} : shF I v (some a) = shrF I a v := rfl


set_option maxRecDepth 20000 in
theorem c_X0_holderOf {cy : Nat → ClassId} {S : Nat → Nat → Nat} {I : kI} {L : kL} {R : kRf} {LP : List Nat} {s : Int32} (hsp : inLP R 14 3 LP)  : Con yX0_holderOf cX0_holderOf 4 (some (.object "FoghornExchange$RadioCall")) 1 0 0 cy [.ref (ka S 3 0), .int s] (wc cy S I L R LP) (kRet (some (va_rf (holdF I R (1 <<< (s &&& 31))))) (wc cy S I L R LP)) kF := by
  refine Con_of (by decide +kernel) (Nat.le_of_ble_eq_true rfl) ?_
  refine J_eq (lv' := [(0, .ref (ka S 3 0)), (1, .int s)]) rfl rfl rfl ?_
  refine J_iconst (v := 0) (by decide) dX0_holderOf_0 ?_
  refine J_istore_n (lv' := [(0, .ref (ka S 3 0)), (1, .int s), (2, .int 0)]) (by decide) rfl dX0_holderOf_1 ?_
  refine J_iload_n 2 rfl dX0_holderOf_2 ?_
  refine J_aload_n 0 rfl dX0_holderOf_3 ?_
  refine gf_0_11 (n3 _) dX0_holderOf_4 ?_
  refine J_alen (v := 3) 5 (n14 _) rfl rfl rfl dX0_holderOf_7 ?_
  refine J_icmp_ge 40 (by decide) dX0_holderOf_8 (fun c1 => ?_) (fun c1 => ?_)
  · exact absurd c1 (by decide)
  refine J_aload_n 0 rfl dX0_holderOf_11 ?_
  refine gf_0_11 (n3 _) dX0_holderOf_12 ?_
  refine J_iload_n 2 rfl dX0_holderOf_15 ?_
  refine J_aald 0 5 (n14 _) rfl rfl (vp_in_iff.mpr (by decide)) (by decide) dX0_holderOf_16 ?_
  rcases opt_split (R 14 0 0) with o2 | ⟨a3, o2⟩
  · skip
    refine J_topv (v' := .null) (by first | rfl | (rw [o2]; rfl)) ?_
    refine J_astore_nN (lv' := [(0, .ref (ka S 3 0)), (1, .int s), (2, .int 0), (3, .null)]) (by decide) rfl dX0_holderOf_17 ?_
    refine J_aload_nN 3 rfl dX0_holderOf_18 ?_
    refine J_ifnullN 34 (by decide) dX0_holderOf_19 ?_
    refine J_iinc (v := 1) (lv' := [(0, .ref (ka S 3 0)), (1, .int s), (2, .int 1), (3, .null)]) 2 rfl (by decide) (by decide) rfl dX0_holderOf_34 ?_
    refine J_goto 2 (by decide) dX0_holderOf_37 ?_
    refine J_iload_n 2 rfl dX0_holderOf_2 ?_
    refine J_aload_n 0 rfl dX0_holderOf_3 ?_
    refine gf_0_11 (n3 _) dX0_holderOf_4 ?_
    refine J_alen (v := 3) 5 (n14 _) rfl rfl rfl dX0_holderOf_7 ?_
    refine J_icmp_ge 40 (by decide) dX0_holderOf_8 (fun c5 => ?_) (fun c5 => ?_)
    · exact absurd c5 (by decide)
    refine J_aload_n 0 rfl dX0_holderOf_11 ?_
    refine gf_0_11 (n3 _) dX0_holderOf_12 ?_
    refine J_iload_n 2 rfl dX0_holderOf_15 ?_
    refine J_aald 1 5 (n14 _) rfl rfl (vp_in_iff.mpr (by decide)) (by decide) dX0_holderOf_16 ?_
    rcases opt_split (R 14 0 1) with o6 | ⟨a7, o6⟩
    · skip
      refine J_topv (v' := .null) (by first | rfl | (rw [o6]; rfl)) ?_
      refine J_astore_nN (lv' := [(0, .ref (ka S 3 0)), (1, .int s), (2, .int 1), (3, .null)]) (by decide) rfl dX0_holderOf_17 ?_
      refine J_aload_nN 3 rfl dX0_holderOf_18 ?_
      refine J_ifnullN 34 (by decide) dX0_holderOf_19 ?_
      refine J_iinc (v := 2) (lv' := [(0, .ref (ka S 3 0)), (1, .int s), (2, .int 2), (3, .null)]) 2 rfl (by decide) (by decide) rfl dX0_holderOf_34 ?_
      refine J_goto 2 (by decide) dX0_holderOf_37 ?_
      refine J_iload_n 2 rfl dX0_holderOf_2 ?_
      refine J_aload_n 0 rfl dX0_holderOf_3 ?_
      refine gf_0_11 (n3 _) dX0_holderOf_4 ?_
      refine J_alen (v := 3) 5 (n14 _) rfl rfl rfl dX0_holderOf_7 ?_
      refine J_icmp_ge 40 (by decide) dX0_holderOf_8 (fun c9 => ?_) (fun c9 => ?_)
      · exact absurd c9 (by decide)
      refine J_aload_n 0 rfl dX0_holderOf_11 ?_
      refine gf_0_11 (n3 _) dX0_holderOf_12 ?_
      refine J_iload_n 2 rfl dX0_holderOf_15 ?_
      refine J_aald 2 5 (n14 _) rfl rfl (vp_in_iff.mpr (by decide)) (by decide) dX0_holderOf_16 ?_
      rcases opt_split (R 14 0 2) with o10 | ⟨a11, o10⟩
      · skip
        refine J_topv (v' := .null) (by first | rfl | (rw [o10]; rfl)) ?_
        refine J_astore_nN (lv' := [(0, .ref (ka S 3 0)), (1, .int s), (2, .int 2), (3, .null)]) (by decide) rfl dX0_holderOf_17 ?_
        refine J_aload_nN 3 rfl dX0_holderOf_18 ?_
        refine J_ifnullN 34 (by decide) dX0_holderOf_19 ?_
        refine J_iinc (v := 3) (lv' := [(0, .ref (ka S 3 0)), (1, .int s), (2, .int 3), (3, .null)]) 2 rfl (by decide) (by decide) rfl dX0_holderOf_34 ?_
        refine J_goto 2 (by decide) dX0_holderOf_37 ?_
        refine J_iload_n 2 rfl dX0_holderOf_2 ?_
        refine J_aload_n 0 rfl dX0_holderOf_3 ?_
        refine gf_0_11 (n3 _) dX0_holderOf_4 ?_
        refine J_alen (v := 3) 5 (n14 _) rfl rfl rfl dX0_holderOf_7 ?_
        refine J_icmp_ge 40 (by decide) dX0_holderOf_8 (fun c13 => ?_) (fun c13 => ?_)
        rotate_left
        · exact absurd (by decide) c13
        refine J_null dX0_holderOf_40 ?_
        exact J_areturn rfl (by first | exact Or.inl ⟨_, rfl⟩ | exact Or.inr ⟨_, rfl⟩) (by first | exact Or.inl rfl | exact Or.inr ⟨_, rfl⟩ | exact va_rf_or _) dX0_holderOf_41 (⟨by (try simp only [kb_0, kb_1, kb_n0, kb_n1, decide_eq_false_iff_not, decide_eq_true_eq, ne_eq, Classical.not_not] at *); first | (simp [kb, kb_0, kb_1, vr_n, vr_s, holdF, shF_none, shF_some, *]; done) | (simp [kb, kb_0, kb_1, vr_n, vr_s, holdF, shF_none, shF_some, *] <;> grind), rfl⟩) (by omega) (by omega)
      · skip
        have ma11 : a11 ∈ LP := hsp _ _ (by decide) o10
        refine J_topv (v' := .ref a11) (by first | rfl | (rw [o10]; rfl)) ?_
        refine J_astore_n (lv' := [(0, .ref (ka S 3 0)), (1, .int s), (2, .int 2), (3, .ref a11)]) (by decide) rfl dX0_holderOf_17 ?_
        refine J_aload_n 3 rfl dX0_holderOf_18 ?_
        refine J_ifnull dX0_holderOf_19 ?_
        refine J_aload_n 3 rfl dX0_holderOf_22 ?_
        refine J_iconst (v := 1) (by decide) dX0_holderOf_23 ?_
        refine J_iload_n 1 rfl dX0_holderOf_24 ?_
        refine J_ishl dX0_holderOf_25 ?_
        refine cv_0_21 (cells' := 0) (slots' := 0) dX0_holderOf_26 (c_X5_sharesStationWith (by assumption)) (n20 (by assumption)) ⟨by decide, by decide⟩ rfl rfl (by decide) (by decide) (Nat.le_of_ble_eq_true rfl) (fun _ _ r14 => ?_) (fun _ _ h => h.elim)
        obtain ⟨rfl, rfl⟩ := r14
        refine J_eq (st' := [.int (kb (shrF I a11 (1 <<< (s &&& 31))))]) rfl rfl rfl ?_
        refine J_if_eq 34 (by decide) dX0_holderOf_29 (fun c15 => ?_) (fun c15 => ?_)
        · skip
          refine J_iinc (v := 3) (lv' := [(0, .ref (ka S 3 0)), (1, .int s), (2, .int 3), (3, .ref a11)]) 2 rfl (by decide) (by decide) rfl dX0_holderOf_34 ?_
          refine J_goto 2 (by decide) dX0_holderOf_37 ?_
          refine J_iload_n 2 rfl dX0_holderOf_2 ?_
          refine J_aload_n 0 rfl dX0_holderOf_3 ?_
          refine gf_0_11 (n3 _) dX0_holderOf_4 ?_
          refine J_alen (v := 3) 5 (n14 _) rfl rfl rfl dX0_holderOf_7 ?_
          refine J_icmp_ge 40 (by decide) dX0_holderOf_8 (fun c17 => ?_) (fun c17 => ?_)
          rotate_left
          · exact absurd (by decide) c17
          refine J_null dX0_holderOf_40 ?_
          exact J_areturn rfl (by first | exact Or.inl ⟨_, rfl⟩ | exact Or.inr ⟨_, rfl⟩) (by first | exact Or.inl rfl | exact Or.inr ⟨_, rfl⟩ | exact va_rf_or _) dX0_holderOf_41 (⟨by (try simp only [kb_0, kb_1, kb_n0, kb_n1, decide_eq_false_iff_not, decide_eq_true_eq, ne_eq, Classical.not_not] at *); first | (simp [kb, kb_0, kb_1, vr_n, vr_s, holdF, shF_none, shF_some, *]; done) | (simp [kb, kb_0, kb_1, vr_n, vr_s, holdF, shF_none, shF_some, *] <;> grind), rfl⟩) (by omega) (by omega)
        · skip
          refine J_aload_n 3 rfl dX0_holderOf_32 ?_
          exact J_areturn rfl (by first | exact Or.inl ⟨_, rfl⟩ | exact Or.inr ⟨_, rfl⟩) (by first | exact Or.inl rfl | exact Or.inr ⟨_, rfl⟩ | exact va_rf_or _) dX0_holderOf_33 (⟨by (try simp only [kb_0, kb_1, kb_n0, kb_n1, decide_eq_false_iff_not, decide_eq_true_eq, ne_eq, Classical.not_not] at *); first | (simp [kb, kb_0, kb_1, vr_n, vr_s, holdF, shF_none, shF_some, *]; done) | (simp [kb, kb_0, kb_1, vr_n, vr_s, holdF, shF_none, shF_some, *] <;> grind), rfl⟩) (by omega) (by omega)
    · skip
      have ma7 : a7 ∈ LP := hsp _ _ (by decide) o6
      refine J_topv (v' := .ref a7) (by first | rfl | (rw [o6]; rfl)) ?_
      refine J_astore_n (lv' := [(0, .ref (ka S 3 0)), (1, .int s), (2, .int 1), (3, .ref a7)]) (by decide) rfl dX0_holderOf_17 ?_
      refine J_aload_n 3 rfl dX0_holderOf_18 ?_
      refine J_ifnull dX0_holderOf_19 ?_
      refine J_aload_n 3 rfl dX0_holderOf_22 ?_
      refine J_iconst (v := 1) (by decide) dX0_holderOf_23 ?_
      refine J_iload_n 1 rfl dX0_holderOf_24 ?_
      refine J_ishl dX0_holderOf_25 ?_
      refine cv_0_21 (cells' := 0) (slots' := 0) dX0_holderOf_26 (c_X5_sharesStationWith (by assumption)) (n20 (by assumption)) ⟨by decide, by decide⟩ rfl rfl (by decide) (by decide) (Nat.le_of_ble_eq_true rfl) (fun _ _ r18 => ?_) (fun _ _ h => h.elim)
      obtain ⟨rfl, rfl⟩ := r18
      refine J_eq (st' := [.int (kb (shrF I a7 (1 <<< (s &&& 31))))]) rfl rfl rfl ?_
      refine J_if_eq 34 (by decide) dX0_holderOf_29 (fun c19 => ?_) (fun c19 => ?_)
      · skip
        refine J_iinc (v := 2) (lv' := [(0, .ref (ka S 3 0)), (1, .int s), (2, .int 2), (3, .ref a7)]) 2 rfl (by decide) (by decide) rfl dX0_holderOf_34 ?_
        refine J_goto 2 (by decide) dX0_holderOf_37 ?_
        refine J_iload_n 2 rfl dX0_holderOf_2 ?_
        refine J_aload_n 0 rfl dX0_holderOf_3 ?_
        refine gf_0_11 (n3 _) dX0_holderOf_4 ?_
        refine J_alen (v := 3) 5 (n14 _) rfl rfl rfl dX0_holderOf_7 ?_
        refine J_icmp_ge 40 (by decide) dX0_holderOf_8 (fun c21 => ?_) (fun c21 => ?_)
        · exact absurd c21 (by decide)
        refine J_aload_n 0 rfl dX0_holderOf_11 ?_
        refine gf_0_11 (n3 _) dX0_holderOf_12 ?_
        refine J_iload_n 2 rfl dX0_holderOf_15 ?_
        refine J_aald 2 5 (n14 _) rfl rfl (vp_in_iff.mpr (by decide)) (by decide) dX0_holderOf_16 ?_
        rcases opt_split (R 14 0 2) with o22 | ⟨a23, o22⟩
        · skip
          refine J_topv (v' := .null) (by first | rfl | (rw [o22]; rfl)) ?_
          refine J_astore_nN (lv' := [(0, .ref (ka S 3 0)), (1, .int s), (2, .int 2), (3, .null)]) (by decide) rfl dX0_holderOf_17 ?_
          refine J_aload_nN 3 rfl dX0_holderOf_18 ?_
          refine J_ifnullN 34 (by decide) dX0_holderOf_19 ?_
          refine J_iinc (v := 3) (lv' := [(0, .ref (ka S 3 0)), (1, .int s), (2, .int 3), (3, .null)]) 2 rfl (by decide) (by decide) rfl dX0_holderOf_34 ?_
          refine J_goto 2 (by decide) dX0_holderOf_37 ?_
          refine J_iload_n 2 rfl dX0_holderOf_2 ?_
          refine J_aload_n 0 rfl dX0_holderOf_3 ?_
          refine gf_0_11 (n3 _) dX0_holderOf_4 ?_
          refine J_alen (v := 3) 5 (n14 _) rfl rfl rfl dX0_holderOf_7 ?_
          refine J_icmp_ge 40 (by decide) dX0_holderOf_8 (fun c25 => ?_) (fun c25 => ?_)
          rotate_left
          · exact absurd (by decide) c25
          refine J_null dX0_holderOf_40 ?_
          exact J_areturn rfl (by first | exact Or.inl ⟨_, rfl⟩ | exact Or.inr ⟨_, rfl⟩) (by first | exact Or.inl rfl | exact Or.inr ⟨_, rfl⟩ | exact va_rf_or _) dX0_holderOf_41 (⟨by (try simp only [kb_0, kb_1, kb_n0, kb_n1, decide_eq_false_iff_not, decide_eq_true_eq, ne_eq, Classical.not_not] at *); first | (simp [kb, kb_0, kb_1, vr_n, vr_s, holdF, shF_none, shF_some, *]; done) | (simp [kb, kb_0, kb_1, vr_n, vr_s, holdF, shF_none, shF_some, *] <;> grind), rfl⟩) (by omega) (by omega)
        · skip
          have ma23 : a23 ∈ LP := hsp _ _ (by decide) o22
          refine J_topv (v' := .ref a23) (by first | rfl | (rw [o22]; rfl)) ?_
          refine J_astore_n (lv' := [(0, .ref (ka S 3 0)), (1, .int s), (2, .int 2), (3, .ref a23)]) (by decide) rfl dX0_holderOf_17 ?_
          refine J_aload_n 3 rfl dX0_holderOf_18 ?_
          refine J_ifnull dX0_holderOf_19 ?_
          refine J_aload_n 3 rfl dX0_holderOf_22 ?_
          refine J_iconst (v := 1) (by decide) dX0_holderOf_23 ?_
          refine J_iload_n 1 rfl dX0_holderOf_24 ?_
          refine J_ishl dX0_holderOf_25 ?_
          refine cv_0_21 (cells' := 0) (slots' := 0) dX0_holderOf_26 (c_X5_sharesStationWith (by assumption)) (n20 (by assumption)) ⟨by decide, by decide⟩ rfl rfl (by decide) (by decide) (Nat.le_of_ble_eq_true rfl) (fun _ _ r26 => ?_) (fun _ _ h => h.elim)
          obtain ⟨rfl, rfl⟩ := r26
          refine J_eq (st' := [.int (kb (shrF I a23 (1 <<< (s &&& 31))))]) rfl rfl rfl ?_
          refine J_if_eq 34 (by decide) dX0_holderOf_29 (fun c27 => ?_) (fun c27 => ?_)
          · skip
            refine J_iinc (v := 3) (lv' := [(0, .ref (ka S 3 0)), (1, .int s), (2, .int 3), (3, .ref a23)]) 2 rfl (by decide) (by decide) rfl dX0_holderOf_34 ?_
            refine J_goto 2 (by decide) dX0_holderOf_37 ?_
            refine J_iload_n 2 rfl dX0_holderOf_2 ?_
            refine J_aload_n 0 rfl dX0_holderOf_3 ?_
            refine gf_0_11 (n3 _) dX0_holderOf_4 ?_
            refine J_alen (v := 3) 5 (n14 _) rfl rfl rfl dX0_holderOf_7 ?_
            refine J_icmp_ge 40 (by decide) dX0_holderOf_8 (fun c29 => ?_) (fun c29 => ?_)
            rotate_left
            · exact absurd (by decide) c29
            refine J_null dX0_holderOf_40 ?_
            exact J_areturn rfl (by first | exact Or.inl ⟨_, rfl⟩ | exact Or.inr ⟨_, rfl⟩) (by first | exact Or.inl rfl | exact Or.inr ⟨_, rfl⟩ | exact va_rf_or _) dX0_holderOf_41 (⟨by (try simp only [kb_0, kb_1, kb_n0, kb_n1, decide_eq_false_iff_not, decide_eq_true_eq, ne_eq, Classical.not_not] at *); first | (simp [kb, kb_0, kb_1, vr_n, vr_s, holdF, shF_none, shF_some, *]; done) | (simp [kb, kb_0, kb_1, vr_n, vr_s, holdF, shF_none, shF_some, *] <;> grind), rfl⟩) (by omega) (by omega)
          · skip
            refine J_aload_n 3 rfl dX0_holderOf_32 ?_
            exact J_areturn rfl (by first | exact Or.inl ⟨_, rfl⟩ | exact Or.inr ⟨_, rfl⟩) (by first | exact Or.inl rfl | exact Or.inr ⟨_, rfl⟩ | exact va_rf_or _) dX0_holderOf_33 (⟨by (try simp only [kb_0, kb_1, kb_n0, kb_n1, decide_eq_false_iff_not, decide_eq_true_eq, ne_eq, Classical.not_not] at *); first | (simp [kb, kb_0, kb_1, vr_n, vr_s, holdF, shF_none, shF_some, *]; done) | (simp [kb, kb_0, kb_1, vr_n, vr_s, holdF, shF_none, shF_some, *] <;> grind), rfl⟩) (by omega) (by omega)
      · skip
        refine J_aload_n 3 rfl dX0_holderOf_32 ?_
        exact J_areturn rfl (by first | exact Or.inl ⟨_, rfl⟩ | exact Or.inr ⟨_, rfl⟩) (by first | exact Or.inl rfl | exact Or.inr ⟨_, rfl⟩ | exact va_rf_or _) dX0_holderOf_33 (⟨by (try simp only [kb_0, kb_1, kb_n0, kb_n1, decide_eq_false_iff_not, decide_eq_true_eq, ne_eq, Classical.not_not] at *); first | (simp [kb, kb_0, kb_1, vr_n, vr_s, holdF, shF_none, shF_some, *]; done) | (simp [kb, kb_0, kb_1, vr_n, vr_s, holdF, shF_none, shF_some, *] <;> grind), rfl⟩) (by omega) (by omega)
  · skip
    have ma3 : a3 ∈ LP := hsp _ _ (by decide) o2
    refine J_topv (v' := .ref a3) (by first | rfl | (rw [o2]; rfl)) ?_
    refine J_astore_n (lv' := [(0, .ref (ka S 3 0)), (1, .int s), (2, .int 0), (3, .ref a3)]) (by decide) rfl dX0_holderOf_17 ?_
    refine J_aload_n 3 rfl dX0_holderOf_18 ?_
    refine J_ifnull dX0_holderOf_19 ?_
    refine J_aload_n 3 rfl dX0_holderOf_22 ?_
    refine J_iconst (v := 1) (by decide) dX0_holderOf_23 ?_
    refine J_iload_n 1 rfl dX0_holderOf_24 ?_
    refine J_ishl dX0_holderOf_25 ?_
    refine cv_0_21 (cells' := 0) (slots' := 0) dX0_holderOf_26 (c_X5_sharesStationWith (by assumption)) (n20 (by assumption)) ⟨by decide, by decide⟩ rfl rfl (by decide) (by decide) (Nat.le_of_ble_eq_true rfl) (fun _ _ r30 => ?_) (fun _ _ h => h.elim)
    obtain ⟨rfl, rfl⟩ := r30
    refine J_eq (st' := [.int (kb (shrF I a3 (1 <<< (s &&& 31))))]) rfl rfl rfl ?_
    refine J_if_eq 34 (by decide) dX0_holderOf_29 (fun c31 => ?_) (fun c31 => ?_)
    · skip
      refine J_iinc (v := 1) (lv' := [(0, .ref (ka S 3 0)), (1, .int s), (2, .int 1), (3, .ref a3)]) 2 rfl (by decide) (by decide) rfl dX0_holderOf_34 ?_
      refine J_goto 2 (by decide) dX0_holderOf_37 ?_
      refine J_iload_n 2 rfl dX0_holderOf_2 ?_
      refine J_aload_n 0 rfl dX0_holderOf_3 ?_
      refine gf_0_11 (n3 _) dX0_holderOf_4 ?_
      refine J_alen (v := 3) 5 (n14 _) rfl rfl rfl dX0_holderOf_7 ?_
      refine J_icmp_ge 40 (by decide) dX0_holderOf_8 (fun c33 => ?_) (fun c33 => ?_)
      · exact absurd c33 (by decide)
      refine J_aload_n 0 rfl dX0_holderOf_11 ?_
      refine gf_0_11 (n3 _) dX0_holderOf_12 ?_
      refine J_iload_n 2 rfl dX0_holderOf_15 ?_
      refine J_aald 1 5 (n14 _) rfl rfl (vp_in_iff.mpr (by decide)) (by decide) dX0_holderOf_16 ?_
      rcases opt_split (R 14 0 1) with o34 | ⟨a35, o34⟩
      · skip
        refine J_topv (v' := .null) (by first | rfl | (rw [o34]; rfl)) ?_
        refine J_astore_nN (lv' := [(0, .ref (ka S 3 0)), (1, .int s), (2, .int 1), (3, .null)]) (by decide) rfl dX0_holderOf_17 ?_
        refine J_aload_nN 3 rfl dX0_holderOf_18 ?_
        refine J_ifnullN 34 (by decide) dX0_holderOf_19 ?_
        refine J_iinc (v := 2) (lv' := [(0, .ref (ka S 3 0)), (1, .int s), (2, .int 2), (3, .null)]) 2 rfl (by decide) (by decide) rfl dX0_holderOf_34 ?_
        refine J_goto 2 (by decide) dX0_holderOf_37 ?_
        refine J_iload_n 2 rfl dX0_holderOf_2 ?_
        refine J_aload_n 0 rfl dX0_holderOf_3 ?_
        refine gf_0_11 (n3 _) dX0_holderOf_4 ?_
        refine J_alen (v := 3) 5 (n14 _) rfl rfl rfl dX0_holderOf_7 ?_
        refine J_icmp_ge 40 (by decide) dX0_holderOf_8 (fun c37 => ?_) (fun c37 => ?_)
        · exact absurd c37 (by decide)
        refine J_aload_n 0 rfl dX0_holderOf_11 ?_
        refine gf_0_11 (n3 _) dX0_holderOf_12 ?_
        refine J_iload_n 2 rfl dX0_holderOf_15 ?_
        refine J_aald 2 5 (n14 _) rfl rfl (vp_in_iff.mpr (by decide)) (by decide) dX0_holderOf_16 ?_
        rcases opt_split (R 14 0 2) with o38 | ⟨a39, o38⟩
        · skip
          refine J_topv (v' := .null) (by first | rfl | (rw [o38]; rfl)) ?_
          refine J_astore_nN (lv' := [(0, .ref (ka S 3 0)), (1, .int s), (2, .int 2), (3, .null)]) (by decide) rfl dX0_holderOf_17 ?_
          refine J_aload_nN 3 rfl dX0_holderOf_18 ?_
          refine J_ifnullN 34 (by decide) dX0_holderOf_19 ?_
          refine J_iinc (v := 3) (lv' := [(0, .ref (ka S 3 0)), (1, .int s), (2, .int 3), (3, .null)]) 2 rfl (by decide) (by decide) rfl dX0_holderOf_34 ?_
          refine J_goto 2 (by decide) dX0_holderOf_37 ?_
          refine J_iload_n 2 rfl dX0_holderOf_2 ?_
          refine J_aload_n 0 rfl dX0_holderOf_3 ?_
          refine gf_0_11 (n3 _) dX0_holderOf_4 ?_
          refine J_alen (v := 3) 5 (n14 _) rfl rfl rfl dX0_holderOf_7 ?_
          refine J_icmp_ge 40 (by decide) dX0_holderOf_8 (fun c41 => ?_) (fun c41 => ?_)
          rotate_left
          · exact absurd (by decide) c41
          refine J_null dX0_holderOf_40 ?_
          exact J_areturn rfl (by first | exact Or.inl ⟨_, rfl⟩ | exact Or.inr ⟨_, rfl⟩) (by first | exact Or.inl rfl | exact Or.inr ⟨_, rfl⟩ | exact va_rf_or _) dX0_holderOf_41 (⟨by (try simp only [kb_0, kb_1, kb_n0, kb_n1, decide_eq_false_iff_not, decide_eq_true_eq, ne_eq, Classical.not_not] at *); first | (simp [kb, kb_0, kb_1, vr_n, vr_s, holdF, shF_none, shF_some, *]; done) | (simp [kb, kb_0, kb_1, vr_n, vr_s, holdF, shF_none, shF_some, *] <;> grind), rfl⟩) (by omega) (by omega)
        · skip
          have ma39 : a39 ∈ LP := hsp _ _ (by decide) o38
          refine J_topv (v' := .ref a39) (by first | rfl | (rw [o38]; rfl)) ?_
          refine J_astore_n (lv' := [(0, .ref (ka S 3 0)), (1, .int s), (2, .int 2), (3, .ref a39)]) (by decide) rfl dX0_holderOf_17 ?_
          refine J_aload_n 3 rfl dX0_holderOf_18 ?_
          refine J_ifnull dX0_holderOf_19 ?_
          refine J_aload_n 3 rfl dX0_holderOf_22 ?_
          refine J_iconst (v := 1) (by decide) dX0_holderOf_23 ?_
          refine J_iload_n 1 rfl dX0_holderOf_24 ?_
          refine J_ishl dX0_holderOf_25 ?_
          refine cv_0_21 (cells' := 0) (slots' := 0) dX0_holderOf_26 (c_X5_sharesStationWith (by assumption)) (n20 (by assumption)) ⟨by decide, by decide⟩ rfl rfl (by decide) (by decide) (Nat.le_of_ble_eq_true rfl) (fun _ _ r42 => ?_) (fun _ _ h => h.elim)
          obtain ⟨rfl, rfl⟩ := r42
          refine J_eq (st' := [.int (kb (shrF I a39 (1 <<< (s &&& 31))))]) rfl rfl rfl ?_
          refine J_if_eq 34 (by decide) dX0_holderOf_29 (fun c43 => ?_) (fun c43 => ?_)
          · skip
            refine J_iinc (v := 3) (lv' := [(0, .ref (ka S 3 0)), (1, .int s), (2, .int 3), (3, .ref a39)]) 2 rfl (by decide) (by decide) rfl dX0_holderOf_34 ?_
            refine J_goto 2 (by decide) dX0_holderOf_37 ?_
            refine J_iload_n 2 rfl dX0_holderOf_2 ?_
            refine J_aload_n 0 rfl dX0_holderOf_3 ?_
            refine gf_0_11 (n3 _) dX0_holderOf_4 ?_
            refine J_alen (v := 3) 5 (n14 _) rfl rfl rfl dX0_holderOf_7 ?_
            refine J_icmp_ge 40 (by decide) dX0_holderOf_8 (fun c45 => ?_) (fun c45 => ?_)
            rotate_left
            · exact absurd (by decide) c45
            refine J_null dX0_holderOf_40 ?_
            exact J_areturn rfl (by first | exact Or.inl ⟨_, rfl⟩ | exact Or.inr ⟨_, rfl⟩) (by first | exact Or.inl rfl | exact Or.inr ⟨_, rfl⟩ | exact va_rf_or _) dX0_holderOf_41 (⟨by (try simp only [kb_0, kb_1, kb_n0, kb_n1, decide_eq_false_iff_not, decide_eq_true_eq, ne_eq, Classical.not_not] at *); first | (simp [kb, kb_0, kb_1, vr_n, vr_s, holdF, shF_none, shF_some, *]; done) | (simp [kb, kb_0, kb_1, vr_n, vr_s, holdF, shF_none, shF_some, *] <;> grind), rfl⟩) (by omega) (by omega)
          · skip
            refine J_aload_n 3 rfl dX0_holderOf_32 ?_
            exact J_areturn rfl (by first | exact Or.inl ⟨_, rfl⟩ | exact Or.inr ⟨_, rfl⟩) (by first | exact Or.inl rfl | exact Or.inr ⟨_, rfl⟩ | exact va_rf_or _) dX0_holderOf_33 (⟨by (try simp only [kb_0, kb_1, kb_n0, kb_n1, decide_eq_false_iff_not, decide_eq_true_eq, ne_eq, Classical.not_not] at *); first | (simp [kb, kb_0, kb_1, vr_n, vr_s, holdF, shF_none, shF_some, *]; done) | (simp [kb, kb_0, kb_1, vr_n, vr_s, holdF, shF_none, shF_some, *] <;> grind), rfl⟩) (by omega) (by omega)
      · skip
        have ma35 : a35 ∈ LP := hsp _ _ (by decide) o34
        refine J_topv (v' := .ref a35) (by first | rfl | (rw [o34]; rfl)) ?_
        refine J_astore_n (lv' := [(0, .ref (ka S 3 0)), (1, .int s), (2, .int 1), (3, .ref a35)]) (by decide) rfl dX0_holderOf_17 ?_
        refine J_aload_n 3 rfl dX0_holderOf_18 ?_
        refine J_ifnull dX0_holderOf_19 ?_
        refine J_aload_n 3 rfl dX0_holderOf_22 ?_
        refine J_iconst (v := 1) (by decide) dX0_holderOf_23 ?_
        refine J_iload_n 1 rfl dX0_holderOf_24 ?_
        refine J_ishl dX0_holderOf_25 ?_
        refine cv_0_21 (cells' := 0) (slots' := 0) dX0_holderOf_26 (c_X5_sharesStationWith (by assumption)) (n20 (by assumption)) ⟨by decide, by decide⟩ rfl rfl (by decide) (by decide) (Nat.le_of_ble_eq_true rfl) (fun _ _ r46 => ?_) (fun _ _ h => h.elim)
        obtain ⟨rfl, rfl⟩ := r46
        refine J_eq (st' := [.int (kb (shrF I a35 (1 <<< (s &&& 31))))]) rfl rfl rfl ?_
        refine J_if_eq 34 (by decide) dX0_holderOf_29 (fun c47 => ?_) (fun c47 => ?_)
        · skip
          refine J_iinc (v := 2) (lv' := [(0, .ref (ka S 3 0)), (1, .int s), (2, .int 2), (3, .ref a35)]) 2 rfl (by decide) (by decide) rfl dX0_holderOf_34 ?_
          refine J_goto 2 (by decide) dX0_holderOf_37 ?_
          refine J_iload_n 2 rfl dX0_holderOf_2 ?_
          refine J_aload_n 0 rfl dX0_holderOf_3 ?_
          refine gf_0_11 (n3 _) dX0_holderOf_4 ?_
          refine J_alen (v := 3) 5 (n14 _) rfl rfl rfl dX0_holderOf_7 ?_
          refine J_icmp_ge 40 (by decide) dX0_holderOf_8 (fun c49 => ?_) (fun c49 => ?_)
          · exact absurd c49 (by decide)
          refine J_aload_n 0 rfl dX0_holderOf_11 ?_
          refine gf_0_11 (n3 _) dX0_holderOf_12 ?_
          refine J_iload_n 2 rfl dX0_holderOf_15 ?_
          refine J_aald 2 5 (n14 _) rfl rfl (vp_in_iff.mpr (by decide)) (by decide) dX0_holderOf_16 ?_
          rcases opt_split (R 14 0 2) with o50 | ⟨a51, o50⟩
          · skip
            refine J_topv (v' := .null) (by first | rfl | (rw [o50]; rfl)) ?_
            refine J_astore_nN (lv' := [(0, .ref (ka S 3 0)), (1, .int s), (2, .int 2), (3, .null)]) (by decide) rfl dX0_holderOf_17 ?_
            refine J_aload_nN 3 rfl dX0_holderOf_18 ?_
            refine J_ifnullN 34 (by decide) dX0_holderOf_19 ?_
            refine J_iinc (v := 3) (lv' := [(0, .ref (ka S 3 0)), (1, .int s), (2, .int 3), (3, .null)]) 2 rfl (by decide) (by decide) rfl dX0_holderOf_34 ?_
            refine J_goto 2 (by decide) dX0_holderOf_37 ?_
            refine J_iload_n 2 rfl dX0_holderOf_2 ?_
            refine J_aload_n 0 rfl dX0_holderOf_3 ?_
            refine gf_0_11 (n3 _) dX0_holderOf_4 ?_
            refine J_alen (v := 3) 5 (n14 _) rfl rfl rfl dX0_holderOf_7 ?_
            refine J_icmp_ge 40 (by decide) dX0_holderOf_8 (fun c53 => ?_) (fun c53 => ?_)
            rotate_left
            · exact absurd (by decide) c53
            refine J_null dX0_holderOf_40 ?_
            exact J_areturn rfl (by first | exact Or.inl ⟨_, rfl⟩ | exact Or.inr ⟨_, rfl⟩) (by first | exact Or.inl rfl | exact Or.inr ⟨_, rfl⟩ | exact va_rf_or _) dX0_holderOf_41 (⟨by (try simp only [kb_0, kb_1, kb_n0, kb_n1, decide_eq_false_iff_not, decide_eq_true_eq, ne_eq, Classical.not_not] at *); first | (simp [kb, kb_0, kb_1, vr_n, vr_s, holdF, shF_none, shF_some, *]; done) | (simp [kb, kb_0, kb_1, vr_n, vr_s, holdF, shF_none, shF_some, *] <;> grind), rfl⟩) (by omega) (by omega)
          · skip
            have ma51 : a51 ∈ LP := hsp _ _ (by decide) o50
            refine J_topv (v' := .ref a51) (by first | rfl | (rw [o50]; rfl)) ?_
            refine J_astore_n (lv' := [(0, .ref (ka S 3 0)), (1, .int s), (2, .int 2), (3, .ref a51)]) (by decide) rfl dX0_holderOf_17 ?_
            refine J_aload_n 3 rfl dX0_holderOf_18 ?_
            refine J_ifnull dX0_holderOf_19 ?_
            refine J_aload_n 3 rfl dX0_holderOf_22 ?_
            refine J_iconst (v := 1) (by decide) dX0_holderOf_23 ?_
            refine J_iload_n 1 rfl dX0_holderOf_24 ?_
            refine J_ishl dX0_holderOf_25 ?_
            refine cv_0_21 (cells' := 0) (slots' := 0) dX0_holderOf_26 (c_X5_sharesStationWith (by assumption)) (n20 (by assumption)) ⟨by decide, by decide⟩ rfl rfl (by decide) (by decide) (Nat.le_of_ble_eq_true rfl) (fun _ _ r54 => ?_) (fun _ _ h => h.elim)
            obtain ⟨rfl, rfl⟩ := r54
            refine J_eq (st' := [.int (kb (shrF I a51 (1 <<< (s &&& 31))))]) rfl rfl rfl ?_
            refine J_if_eq 34 (by decide) dX0_holderOf_29 (fun c55 => ?_) (fun c55 => ?_)
            · skip
              refine J_iinc (v := 3) (lv' := [(0, .ref (ka S 3 0)), (1, .int s), (2, .int 3), (3, .ref a51)]) 2 rfl (by decide) (by decide) rfl dX0_holderOf_34 ?_
              refine J_goto 2 (by decide) dX0_holderOf_37 ?_
              refine J_iload_n 2 rfl dX0_holderOf_2 ?_
              refine J_aload_n 0 rfl dX0_holderOf_3 ?_
              refine gf_0_11 (n3 _) dX0_holderOf_4 ?_
              refine J_alen (v := 3) 5 (n14 _) rfl rfl rfl dX0_holderOf_7 ?_
              refine J_icmp_ge 40 (by decide) dX0_holderOf_8 (fun c57 => ?_) (fun c57 => ?_)
              rotate_left
              · exact absurd (by decide) c57
              refine J_null dX0_holderOf_40 ?_
              exact J_areturn rfl (by first | exact Or.inl ⟨_, rfl⟩ | exact Or.inr ⟨_, rfl⟩) (by first | exact Or.inl rfl | exact Or.inr ⟨_, rfl⟩ | exact va_rf_or _) dX0_holderOf_41 (⟨by (try simp only [kb_0, kb_1, kb_n0, kb_n1, decide_eq_false_iff_not, decide_eq_true_eq, ne_eq, Classical.not_not] at *); first | (simp [kb, kb_0, kb_1, vr_n, vr_s, holdF, shF_none, shF_some, *]; done) | (simp [kb, kb_0, kb_1, vr_n, vr_s, holdF, shF_none, shF_some, *] <;> grind), rfl⟩) (by omega) (by omega)
            · skip
              refine J_aload_n 3 rfl dX0_holderOf_32 ?_
              exact J_areturn rfl (by first | exact Or.inl ⟨_, rfl⟩ | exact Or.inr ⟨_, rfl⟩) (by first | exact Or.inl rfl | exact Or.inr ⟨_, rfl⟩ | exact va_rf_or _) dX0_holderOf_33 (⟨by (try simp only [kb_0, kb_1, kb_n0, kb_n1, decide_eq_false_iff_not, decide_eq_true_eq, ne_eq, Classical.not_not] at *); first | (simp [kb, kb_0, kb_1, vr_n, vr_s, holdF, shF_none, shF_some, *]; done) | (simp [kb, kb_0, kb_1, vr_n, vr_s, holdF, shF_none, shF_some, *] <;> grind), rfl⟩) (by omega) (by omega)
        · skip
          refine J_aload_n 3 rfl dX0_holderOf_32 ?_
          exact J_areturn rfl (by first | exact Or.inl ⟨_, rfl⟩ | exact Or.inr ⟨_, rfl⟩) (by first | exact Or.inl rfl | exact Or.inr ⟨_, rfl⟩ | exact va_rf_or _) dX0_holderOf_33 (⟨by (try simp only [kb_0, kb_1, kb_n0, kb_n1, decide_eq_false_iff_not, decide_eq_true_eq, ne_eq, Classical.not_not] at *); first | (simp [kb, kb_0, kb_1, vr_n, vr_s, holdF, shF_none, shF_some, *]; done) | (simp [kb, kb_0, kb_1, vr_n, vr_s, holdF, shF_none, shF_some, *] <;> grind), rfl⟩) (by omega) (by omega)
    · skip
      refine J_aload_n 3 rfl dX0_holderOf_32 ?_
      exact J_areturn rfl (by first | exact Or.inl ⟨_, rfl⟩ | exact Or.inr ⟨_, rfl⟩) (by first | exact Or.inl rfl | exact Or.inr ⟨_, rfl⟩ | exact va_rf_or _) dX0_holderOf_33 (⟨by (try simp only [kb_0, kb_1, kb_n0, kb_n1, decide_eq_false_iff_not, decide_eq_true_eq, ne_eq, Classical.not_not] at *); first | (simp [kb, kb_0, kb_1, vr_n, vr_s, holdF, shF_none, shF_some, *]; done) | (simp [kb, kb_0, kb_1, vr_n, vr_s, holdF, shF_none, shF_some, *] <;> grind), rfl⟩) (by omega) (by omega)

set_option maxRecDepth 20000 in
theorem c_X0_busyCount {cy : Nat → ClassId} {S : Nat → Nat → Nat} {I : kI} {L : kL} {R : kRf} {LP : List Nat}  (hsp : inLP R 14 3 LP)  : Con yX0_busyCount cX0_busyCount 3 (some .int) 0 0 0 cy [.ref (ka S 3 0)] (wc cy S I L R LP) (kRet (some (.int (busyF R))) (wc cy S I L R LP)) kF := by
  refine Con_of (by decide +kernel) (Nat.le_of_ble_eq_true rfl) ?_
  refine J_eq (lv' := [(0, .ref (ka S 3 0))]) rfl rfl rfl ?_
  refine J_iconst (v := 0) (by decide) dX0_busyCount_0 ?_
  refine J_istore_n (lv' := [(0, .ref (ka S 3 0)), (1, .int 0)]) (by decide) rfl dX0_busyCount_1 ?_
  refine J_iconst (v := 0) (by decide) dX0_busyCount_2 ?_
  refine J_istore_n (lv' := [(0, .ref (ka S 3 0)), (1, .int 0), (2, .int 0)]) (by decide) rfl dX0_busyCount_3 ?_
  refine J_iload_n 2 rfl dX0_busyCount_4 ?_
  refine J_aload_n 0 rfl dX0_busyCount_5 ?_
  refine gf_0_11 (n3 _) dX0_busyCount_6 ?_
  refine J_alen (v := 3) 5 (n14 _) rfl rfl rfl dX0_busyCount_9 ?_
  refine J_icmp_ge 31 (by decide) dX0_busyCount_10 (fun c1 => ?_) (fun c1 => ?_)
  · exact absurd c1 (by decide)
  refine J_aload_n 0 rfl dX0_busyCount_13 ?_
  refine gf_0_11 (n3 _) dX0_busyCount_14 ?_
  refine J_iload_n 2 rfl dX0_busyCount_17 ?_
  refine J_aald 0 5 (n14 _) rfl rfl (vp_in_iff.mpr (by decide)) (by decide) dX0_busyCount_18 ?_
  rcases opt_split (R 14 0 0) with o2 | ⟨a3, o2⟩
  · skip
    refine J_topv (v' := .null) (by first | rfl | (rw [o2]; rfl)) ?_
    refine J_ifnullN 25 (by decide) dX0_busyCount_19 ?_
    refine J_iinc (v := 1) (lv' := [(0, .ref (ka S 3 0)), (1, .int 0), (2, .int 1)]) 2 rfl (by decide) (by decide) rfl dX0_busyCount_25 ?_
    refine J_goto 4 (by decide) dX0_busyCount_28 ?_
    refine J_iload_n 2 rfl dX0_busyCount_4 ?_
    refine J_aload_n 0 rfl dX0_busyCount_5 ?_
    refine gf_0_11 (n3 _) dX0_busyCount_6 ?_
    refine J_alen (v := 3) 5 (n14 _) rfl rfl rfl dX0_busyCount_9 ?_
    refine J_icmp_ge 31 (by decide) dX0_busyCount_10 (fun c5 => ?_) (fun c5 => ?_)
    · exact absurd c5 (by decide)
    refine J_aload_n 0 rfl dX0_busyCount_13 ?_
    refine gf_0_11 (n3 _) dX0_busyCount_14 ?_
    refine J_iload_n 2 rfl dX0_busyCount_17 ?_
    refine J_aald 1 5 (n14 _) rfl rfl (vp_in_iff.mpr (by decide)) (by decide) dX0_busyCount_18 ?_
    rcases opt_split (R 14 0 1) with o6 | ⟨a7, o6⟩
    · skip
      refine J_topv (v' := .null) (by first | rfl | (rw [o6]; rfl)) ?_
      refine J_ifnullN 25 (by decide) dX0_busyCount_19 ?_
      refine J_iinc (v := 2) (lv' := [(0, .ref (ka S 3 0)), (1, .int 0), (2, .int 2)]) 2 rfl (by decide) (by decide) rfl dX0_busyCount_25 ?_
      refine J_goto 4 (by decide) dX0_busyCount_28 ?_
      refine J_iload_n 2 rfl dX0_busyCount_4 ?_
      refine J_aload_n 0 rfl dX0_busyCount_5 ?_
      refine gf_0_11 (n3 _) dX0_busyCount_6 ?_
      refine J_alen (v := 3) 5 (n14 _) rfl rfl rfl dX0_busyCount_9 ?_
      refine J_icmp_ge 31 (by decide) dX0_busyCount_10 (fun c9 => ?_) (fun c9 => ?_)
      · exact absurd c9 (by decide)
      refine J_aload_n 0 rfl dX0_busyCount_13 ?_
      refine gf_0_11 (n3 _) dX0_busyCount_14 ?_
      refine J_iload_n 2 rfl dX0_busyCount_17 ?_
      refine J_aald 2 5 (n14 _) rfl rfl (vp_in_iff.mpr (by decide)) (by decide) dX0_busyCount_18 ?_
      rcases opt_split (R 14 0 2) with o10 | ⟨a11, o10⟩
      · skip
        refine J_topv (v' := .null) (by first | rfl | (rw [o10]; rfl)) ?_
        refine J_ifnullN 25 (by decide) dX0_busyCount_19 ?_
        refine J_iinc (v := 3) (lv' := [(0, .ref (ka S 3 0)), (1, .int 0), (2, .int 3)]) 2 rfl (by decide) (by decide) rfl dX0_busyCount_25 ?_
        refine J_goto 4 (by decide) dX0_busyCount_28 ?_
        refine J_iload_n 2 rfl dX0_busyCount_4 ?_
        refine J_aload_n 0 rfl dX0_busyCount_5 ?_
        refine gf_0_11 (n3 _) dX0_busyCount_6 ?_
        refine J_alen (v := 3) 5 (n14 _) rfl rfl rfl dX0_busyCount_9 ?_
        refine J_icmp_ge 31 (by decide) dX0_busyCount_10 (fun c13 => ?_) (fun c13 => ?_)
        rotate_left
        · exact absurd (by decide) c13
        refine J_iload_n 1 rfl dX0_busyCount_31 ?_
        exact J_ireturn rfl (by first | rfl | assumption | simp [kb_nar]) dX0_busyCount_32 (⟨by simp [busyF, *], rfl⟩) (by omega) (by omega)
      · skip
        have ma11 : a11 ∈ LP := hsp _ _ (by decide) o10
        refine J_topv (v' := .ref a11) (by first | rfl | (rw [o10]; rfl)) ?_
        refine J_ifnull dX0_busyCount_19 ?_
        refine J_iinc (v := 1) (lv' := [(0, .ref (ka S 3 0)), (1, .int 1), (2, .int 2)]) 1 rfl (by decide) (by decide) rfl dX0_busyCount_22 ?_
        refine J_iinc (v := 3) (lv' := [(0, .ref (ka S 3 0)), (1, .int 1), (2, .int 3)]) 2 rfl (by decide) (by decide) rfl dX0_busyCount_25 ?_
        refine J_goto 4 (by decide) dX0_busyCount_28 ?_
        refine J_iload_n 2 rfl dX0_busyCount_4 ?_
        refine J_aload_n 0 rfl dX0_busyCount_5 ?_
        refine gf_0_11 (n3 _) dX0_busyCount_6 ?_
        refine J_alen (v := 3) 5 (n14 _) rfl rfl rfl dX0_busyCount_9 ?_
        refine J_icmp_ge 31 (by decide) dX0_busyCount_10 (fun c16 => ?_) (fun c16 => ?_)
        rotate_left
        · exact absurd (by decide) c16
        refine J_iload_n 1 rfl dX0_busyCount_31 ?_
        exact J_ireturn rfl (by first | rfl | assumption | simp [kb_nar]) dX0_busyCount_32 (⟨by simp [busyF, *], rfl⟩) (by omega) (by omega)
    · skip
      have ma7 : a7 ∈ LP := hsp _ _ (by decide) o6
      refine J_topv (v' := .ref a7) (by first | rfl | (rw [o6]; rfl)) ?_
      refine J_ifnull dX0_busyCount_19 ?_
      refine J_iinc (v := 1) (lv' := [(0, .ref (ka S 3 0)), (1, .int 1), (2, .int 1)]) 1 rfl (by decide) (by decide) rfl dX0_busyCount_22 ?_
      refine J_iinc (v := 2) (lv' := [(0, .ref (ka S 3 0)), (1, .int 1), (2, .int 2)]) 2 rfl (by decide) (by decide) rfl dX0_busyCount_25 ?_
      refine J_goto 4 (by decide) dX0_busyCount_28 ?_
      refine J_iload_n 2 rfl dX0_busyCount_4 ?_
      refine J_aload_n 0 rfl dX0_busyCount_5 ?_
      refine gf_0_11 (n3 _) dX0_busyCount_6 ?_
      refine J_alen (v := 3) 5 (n14 _) rfl rfl rfl dX0_busyCount_9 ?_
      refine J_icmp_ge 31 (by decide) dX0_busyCount_10 (fun c19 => ?_) (fun c19 => ?_)
      · exact absurd c19 (by decide)
      refine J_aload_n 0 rfl dX0_busyCount_13 ?_
      refine gf_0_11 (n3 _) dX0_busyCount_14 ?_
      refine J_iload_n 2 rfl dX0_busyCount_17 ?_
      refine J_aald 2 5 (n14 _) rfl rfl (vp_in_iff.mpr (by decide)) (by decide) dX0_busyCount_18 ?_
      rcases opt_split (R 14 0 2) with o20 | ⟨a21, o20⟩
      · skip
        refine J_topv (v' := .null) (by first | rfl | (rw [o20]; rfl)) ?_
        refine J_ifnullN 25 (by decide) dX0_busyCount_19 ?_
        refine J_iinc (v := 3) (lv' := [(0, .ref (ka S 3 0)), (1, .int 1), (2, .int 3)]) 2 rfl (by decide) (by decide) rfl dX0_busyCount_25 ?_
        refine J_goto 4 (by decide) dX0_busyCount_28 ?_
        refine J_iload_n 2 rfl dX0_busyCount_4 ?_
        refine J_aload_n 0 rfl dX0_busyCount_5 ?_
        refine gf_0_11 (n3 _) dX0_busyCount_6 ?_
        refine J_alen (v := 3) 5 (n14 _) rfl rfl rfl dX0_busyCount_9 ?_
        refine J_icmp_ge 31 (by decide) dX0_busyCount_10 (fun c23 => ?_) (fun c23 => ?_)
        rotate_left
        · exact absurd (by decide) c23
        refine J_iload_n 1 rfl dX0_busyCount_31 ?_
        exact J_ireturn rfl (by first | rfl | assumption | simp [kb_nar]) dX0_busyCount_32 (⟨by simp [busyF, *], rfl⟩) (by omega) (by omega)
      · skip
        have ma21 : a21 ∈ LP := hsp _ _ (by decide) o20
        refine J_topv (v' := .ref a21) (by first | rfl | (rw [o20]; rfl)) ?_
        refine J_ifnull dX0_busyCount_19 ?_
        refine J_iinc (v := 2) (lv' := [(0, .ref (ka S 3 0)), (1, .int 2), (2, .int 2)]) 1 rfl (by decide) (by decide) rfl dX0_busyCount_22 ?_
        refine J_iinc (v := 3) (lv' := [(0, .ref (ka S 3 0)), (1, .int 2), (2, .int 3)]) 2 rfl (by decide) (by decide) rfl dX0_busyCount_25 ?_
        refine J_goto 4 (by decide) dX0_busyCount_28 ?_
        refine J_iload_n 2 rfl dX0_busyCount_4 ?_
        refine J_aload_n 0 rfl dX0_busyCount_5 ?_
        refine gf_0_11 (n3 _) dX0_busyCount_6 ?_
        refine J_alen (v := 3) 5 (n14 _) rfl rfl rfl dX0_busyCount_9 ?_
        refine J_icmp_ge 31 (by decide) dX0_busyCount_10 (fun c26 => ?_) (fun c26 => ?_)
        rotate_left
        · exact absurd (by decide) c26
        refine J_iload_n 1 rfl dX0_busyCount_31 ?_
        exact J_ireturn rfl (by first | rfl | assumption | simp [kb_nar]) dX0_busyCount_32 (⟨by simp [busyF, *], rfl⟩) (by omega) (by omega)
  · skip
    have ma3 : a3 ∈ LP := hsp _ _ (by decide) o2
    refine J_topv (v' := .ref a3) (by first | rfl | (rw [o2]; rfl)) ?_
    refine J_ifnull dX0_busyCount_19 ?_
    refine J_iinc (v := 1) (lv' := [(0, .ref (ka S 3 0)), (1, .int 1), (2, .int 0)]) 1 rfl (by decide) (by decide) rfl dX0_busyCount_22 ?_
    refine J_iinc (v := 1) (lv' := [(0, .ref (ka S 3 0)), (1, .int 1), (2, .int 1)]) 2 rfl (by decide) (by decide) rfl dX0_busyCount_25 ?_
    refine J_goto 4 (by decide) dX0_busyCount_28 ?_
    refine J_iload_n 2 rfl dX0_busyCount_4 ?_
    refine J_aload_n 0 rfl dX0_busyCount_5 ?_
    refine gf_0_11 (n3 _) dX0_busyCount_6 ?_
    refine J_alen (v := 3) 5 (n14 _) rfl rfl rfl dX0_busyCount_9 ?_
    refine J_icmp_ge 31 (by decide) dX0_busyCount_10 (fun c29 => ?_) (fun c29 => ?_)
    · exact absurd c29 (by decide)
    refine J_aload_n 0 rfl dX0_busyCount_13 ?_
    refine gf_0_11 (n3 _) dX0_busyCount_14 ?_
    refine J_iload_n 2 rfl dX0_busyCount_17 ?_
    refine J_aald 1 5 (n14 _) rfl rfl (vp_in_iff.mpr (by decide)) (by decide) dX0_busyCount_18 ?_
    rcases opt_split (R 14 0 1) with o30 | ⟨a31, o30⟩
    · skip
      refine J_topv (v' := .null) (by first | rfl | (rw [o30]; rfl)) ?_
      refine J_ifnullN 25 (by decide) dX0_busyCount_19 ?_
      refine J_iinc (v := 2) (lv' := [(0, .ref (ka S 3 0)), (1, .int 1), (2, .int 2)]) 2 rfl (by decide) (by decide) rfl dX0_busyCount_25 ?_
      refine J_goto 4 (by decide) dX0_busyCount_28 ?_
      refine J_iload_n 2 rfl dX0_busyCount_4 ?_
      refine J_aload_n 0 rfl dX0_busyCount_5 ?_
      refine gf_0_11 (n3 _) dX0_busyCount_6 ?_
      refine J_alen (v := 3) 5 (n14 _) rfl rfl rfl dX0_busyCount_9 ?_
      refine J_icmp_ge 31 (by decide) dX0_busyCount_10 (fun c33 => ?_) (fun c33 => ?_)
      · exact absurd c33 (by decide)
      refine J_aload_n 0 rfl dX0_busyCount_13 ?_
      refine gf_0_11 (n3 _) dX0_busyCount_14 ?_
      refine J_iload_n 2 rfl dX0_busyCount_17 ?_
      refine J_aald 2 5 (n14 _) rfl rfl (vp_in_iff.mpr (by decide)) (by decide) dX0_busyCount_18 ?_
      rcases opt_split (R 14 0 2) with o34 | ⟨a35, o34⟩
      · skip
        refine J_topv (v' := .null) (by first | rfl | (rw [o34]; rfl)) ?_
        refine J_ifnullN 25 (by decide) dX0_busyCount_19 ?_
        refine J_iinc (v := 3) (lv' := [(0, .ref (ka S 3 0)), (1, .int 1), (2, .int 3)]) 2 rfl (by decide) (by decide) rfl dX0_busyCount_25 ?_
        refine J_goto 4 (by decide) dX0_busyCount_28 ?_
        refine J_iload_n 2 rfl dX0_busyCount_4 ?_
        refine J_aload_n 0 rfl dX0_busyCount_5 ?_
        refine gf_0_11 (n3 _) dX0_busyCount_6 ?_
        refine J_alen (v := 3) 5 (n14 _) rfl rfl rfl dX0_busyCount_9 ?_
        refine J_icmp_ge 31 (by decide) dX0_busyCount_10 (fun c37 => ?_) (fun c37 => ?_)
        rotate_left
        · exact absurd (by decide) c37
        refine J_iload_n 1 rfl dX0_busyCount_31 ?_
        exact J_ireturn rfl (by first | rfl | assumption | simp [kb_nar]) dX0_busyCount_32 (⟨by simp [busyF, *], rfl⟩) (by omega) (by omega)
      · skip
        have ma35 : a35 ∈ LP := hsp _ _ (by decide) o34
        refine J_topv (v' := .ref a35) (by first | rfl | (rw [o34]; rfl)) ?_
        refine J_ifnull dX0_busyCount_19 ?_
        refine J_iinc (v := 2) (lv' := [(0, .ref (ka S 3 0)), (1, .int 2), (2, .int 2)]) 1 rfl (by decide) (by decide) rfl dX0_busyCount_22 ?_
        refine J_iinc (v := 3) (lv' := [(0, .ref (ka S 3 0)), (1, .int 2), (2, .int 3)]) 2 rfl (by decide) (by decide) rfl dX0_busyCount_25 ?_
        refine J_goto 4 (by decide) dX0_busyCount_28 ?_
        refine J_iload_n 2 rfl dX0_busyCount_4 ?_
        refine J_aload_n 0 rfl dX0_busyCount_5 ?_
        refine gf_0_11 (n3 _) dX0_busyCount_6 ?_
        refine J_alen (v := 3) 5 (n14 _) rfl rfl rfl dX0_busyCount_9 ?_
        refine J_icmp_ge 31 (by decide) dX0_busyCount_10 (fun c40 => ?_) (fun c40 => ?_)
        rotate_left
        · exact absurd (by decide) c40
        refine J_iload_n 1 rfl dX0_busyCount_31 ?_
        exact J_ireturn rfl (by first | rfl | assumption | simp [kb_nar]) dX0_busyCount_32 (⟨by simp [busyF, *], rfl⟩) (by omega) (by omega)
    · skip
      have ma31 : a31 ∈ LP := hsp _ _ (by decide) o30
      refine J_topv (v' := .ref a31) (by first | rfl | (rw [o30]; rfl)) ?_
      refine J_ifnull dX0_busyCount_19 ?_
      refine J_iinc (v := 2) (lv' := [(0, .ref (ka S 3 0)), (1, .int 2), (2, .int 1)]) 1 rfl (by decide) (by decide) rfl dX0_busyCount_22 ?_
      refine J_iinc (v := 2) (lv' := [(0, .ref (ka S 3 0)), (1, .int 2), (2, .int 2)]) 2 rfl (by decide) (by decide) rfl dX0_busyCount_25 ?_
      refine J_goto 4 (by decide) dX0_busyCount_28 ?_
      refine J_iload_n 2 rfl dX0_busyCount_4 ?_
      refine J_aload_n 0 rfl dX0_busyCount_5 ?_
      refine gf_0_11 (n3 _) dX0_busyCount_6 ?_
      refine J_alen (v := 3) 5 (n14 _) rfl rfl rfl dX0_busyCount_9 ?_
      refine J_icmp_ge 31 (by decide) dX0_busyCount_10 (fun c43 => ?_) (fun c43 => ?_)
      · exact absurd c43 (by decide)
      refine J_aload_n 0 rfl dX0_busyCount_13 ?_
      refine gf_0_11 (n3 _) dX0_busyCount_14 ?_
      refine J_iload_n 2 rfl dX0_busyCount_17 ?_
      refine J_aald 2 5 (n14 _) rfl rfl (vp_in_iff.mpr (by decide)) (by decide) dX0_busyCount_18 ?_
      rcases opt_split (R 14 0 2) with o44 | ⟨a45, o44⟩
      · skip
        refine J_topv (v' := .null) (by first | rfl | (rw [o44]; rfl)) ?_
        refine J_ifnullN 25 (by decide) dX0_busyCount_19 ?_
        refine J_iinc (v := 3) (lv' := [(0, .ref (ka S 3 0)), (1, .int 2), (2, .int 3)]) 2 rfl (by decide) (by decide) rfl dX0_busyCount_25 ?_
        refine J_goto 4 (by decide) dX0_busyCount_28 ?_
        refine J_iload_n 2 rfl dX0_busyCount_4 ?_
        refine J_aload_n 0 rfl dX0_busyCount_5 ?_
        refine gf_0_11 (n3 _) dX0_busyCount_6 ?_
        refine J_alen (v := 3) 5 (n14 _) rfl rfl rfl dX0_busyCount_9 ?_
        refine J_icmp_ge 31 (by decide) dX0_busyCount_10 (fun c47 => ?_) (fun c47 => ?_)
        rotate_left
        · exact absurd (by decide) c47
        refine J_iload_n 1 rfl dX0_busyCount_31 ?_
        exact J_ireturn rfl (by first | rfl | assumption | simp [kb_nar]) dX0_busyCount_32 (⟨by simp [busyF, *], rfl⟩) (by omega) (by omega)
      · skip
        have ma45 : a45 ∈ LP := hsp _ _ (by decide) o44
        refine J_topv (v' := .ref a45) (by first | rfl | (rw [o44]; rfl)) ?_
        refine J_ifnull dX0_busyCount_19 ?_
        refine J_iinc (v := 3) (lv' := [(0, .ref (ka S 3 0)), (1, .int 3), (2, .int 2)]) 1 rfl (by decide) (by decide) rfl dX0_busyCount_22 ?_
        refine J_iinc (v := 3) (lv' := [(0, .ref (ka S 3 0)), (1, .int 3), (2, .int 3)]) 2 rfl (by decide) (by decide) rfl dX0_busyCount_25 ?_
        refine J_goto 4 (by decide) dX0_busyCount_28 ?_
        refine J_iload_n 2 rfl dX0_busyCount_4 ?_
        refine J_aload_n 0 rfl dX0_busyCount_5 ?_
        refine gf_0_11 (n3 _) dX0_busyCount_6 ?_
        refine J_alen (v := 3) 5 (n14 _) rfl rfl rfl dX0_busyCount_9 ?_
        refine J_icmp_ge 31 (by decide) dX0_busyCount_10 (fun c50 => ?_) (fun c50 => ?_)
        rotate_left
        · exact absurd (by decide) c50
        refine J_iload_n 1 rfl dX0_busyCount_31 ?_
        exact J_ireturn rfl (by first | rfl | assumption | simp [kb_nar]) dX0_busyCount_32 (⟨by simp [busyF, *], rfl⟩) (by omega) (by omega)

def spkF (R : kRf) (c : Int32) : Option Nat := if 0 ≤ c ∧ c < 3 then R 14 0 c.toNatClampNeg else none
def freeF (I : kI) (R : kRf) (a : Nat) : Int32 := if R 14 0 0 = none ∧ mayF I a 0 then 0 else if R 14 0 1 = none then 1 else if R 14 0 2 = none then 2 else -1
/-- can a call have what stands on a channel -/
def havF (I : kI) (a : Nat) (r : Option Nat) : Bool := match r with
  | none => true
  | some b => brkF I a b
theorem havF_n {I : kI} {a : Nat} : havF I a none = true := rfl
theorem havF_s {I : kI} {a b : Nat} : havF I a (some b) = brkF I a b := rfl
def takF (I : kI) (R : kRf) (a : Nat) (v : Int32) : Bool := (havF I a (R 14 0 0) || !shF I v (R 14 0 0)) && ((havF I a (R 14 0 1) || !shF I v (R 14 0 1)) && ((havF I a (R 14 0 2) || !shF I v (R 14 0 2)) && (decide (v ≠ 0) && ((havF I a (R 14 0 0) && mayF I a 0) || (havF I a (R 14 0 1) || havF I a (R 14 0 2))))))
def luF (I : kI) (a : Nat) (c : Int32) (least r : Option Nat) : Option Nat := match r with
  | none => least
  | some b => if mayF I a c then (match least with
    | none => some b
    | some l => if easF I b l then some b else some l) else least
theorem luF_n {I : kI} {a : Nat} {c : Int32} {l : Option Nat} : luF I a c l none = l := rfl
theorem luF_s1 {I : kI} {a b : Nat} {c : Int32} : luF I a c none (some b) = if mayF I a c then some b else none := rfl
theorem luF_s2 {I : kI} {a b l : Nat} {c : Int32} : luF I a c (some l) (some b) = if mayF I a c then (if easF I b l then some b else some l) else some l := rfl
def leaF (I : kI) (R : kRf) (a : Nat) : Option Nat := luF I a 2 (luF I a 1 (luF I a 0 none (R 14 0 0)) (R 14 0 1)) (R 14 0 2)
theorem may_1 {I : kI} {a : Nat} : mayF I a 1 = true := by simp [mayF]
theorem may_2 {I : kI} {a : Nat} : mayF I a 2 = true := by simp [mayF]

set_option maxRecDepth 20000 in
theorem c_X0_speaker {cy : Nat → ClassId} {S : Nat → Nat → Nat} {I : kI} {L : kL} {R : kRf} {LP : List Nat} {c : Int32} (hsp : inLP R 14 3 LP)  : Con yX0_speaker cX0_speaker 2 (some (.object "FoghornExchange$RadioCall")) 0 0 0 cy [.ref (ka S 3 0), .int c] (wc cy S I L R LP) (kRet (some (va_rf (spkF R c))) (wc cy S I L R LP)) kF := by
  refine Con_of (by decide +kernel) (Nat.le_of_ble_eq_true rfl) ?_
  refine J_eq (lv' := [(0, .ref (ka S 3 0)), (1, .int c)]) rfl rfl rfl ?_
  refine J_iload_n 1 rfl dX0_speaker_0 ?_
  refine J_if_lt 22 (by decide) dX0_speaker_1 (fun c1 => ?_) (fun c1 => ?_)
  · skip
    refine J_null dX0_speaker_22 ?_
    exact J_areturn rfl (by first | exact Or.inl ⟨_, rfl⟩ | exact Or.inr ⟨_, rfl⟩) (by first | exact Or.inl rfl | exact Or.inr ⟨_, rfl⟩ | exact va_rf_or _) dX0_speaker_23 (⟨by unfold spkF; first | (rw [if_neg (by grind)]; done) | (rw [if_neg (by grind)]; rfl) | (rw [if_pos (by grind)]; simp [vr_n, vr_s, *]; done), rfl⟩) (by omega) (by omega)
  · skip
    refine J_iload_n 1 rfl dX0_speaker_4 ?_
    refine J_aload_n 0 rfl dX0_speaker_5 ?_
    refine gf_0_11 (n3 _) dX0_speaker_6 ?_
    refine J_alen (v := 3) 5 (n14 _) rfl rfl rfl dX0_speaker_9 ?_
    refine J_icmp_ge 22 (by decide) dX0_speaker_10 (fun c2 => ?_) (fun c2 => ?_)
    · skip
      refine J_null dX0_speaker_22 ?_
      exact J_areturn rfl (by first | exact Or.inl ⟨_, rfl⟩ | exact Or.inr ⟨_, rfl⟩) (by first | exact Or.inl rfl | exact Or.inr ⟨_, rfl⟩ | exact va_rf_or _) dX0_speaker_23 (⟨by unfold spkF; first | (rw [if_neg (by grind)]; done) | (rw [if_neg (by grind)]; rfl) | (rw [if_pos (by grind)]; simp [vr_n, vr_s, *]; done), rfl⟩) (by omega) (by omega)
    · skip
      refine J_aload_n 0 rfl dX0_speaker_13 ?_
      refine gf_0_11 (n3 _) dX0_speaker_14 ?_
      refine J_iload_n 1 rfl dX0_speaker_17 ?_
      have hc3 : vp_in c 3 := vp3 (by assumption) (by assumption)
      refine J_aald c.toNatClampNeg 5 (n14 _) rfl rfl (by assumption) rfl dX0_speaker_18 ?_
      rcases opt_split (R 14 0 c.toNatClampNeg) with o3 | ⟨a4, o3⟩
      · skip
        refine J_topv (v' := .null) (by first | rfl | (rw [o3]; rfl)) ?_
        refine J_goto 23 (by decide) dX0_speaker_19 ?_
        exact J_areturn rfl (by first | exact Or.inl ⟨_, rfl⟩ | exact Or.inr ⟨_, rfl⟩) (by first | exact Or.inl rfl | exact Or.inr ⟨_, rfl⟩ | exact va_rf_or _) dX0_speaker_23 (⟨by unfold spkF; first | (rw [if_neg (by grind)]; done) | (rw [if_neg (by grind)]; rfl) | (rw [if_pos (by grind)]; simp [vr_n, vr_s, *]; done), rfl⟩) (by omega) (by omega)
      · skip
        have ma4 : a4 ∈ LP := hsp _ _ (by first | assumption | omega | exact vp_in_lt (by assumption)) o3
        refine J_topv (v' := .ref a4) (by first | rfl | (rw [o3]; rfl)) ?_
        refine J_goto 23 (by decide) dX0_speaker_19 ?_
        exact J_areturn rfl (by first | exact Or.inl ⟨_, rfl⟩ | exact Or.inr ⟨_, rfl⟩) (by first | exact Or.inl rfl | exact Or.inr ⟨_, rfl⟩ | exact va_rf_or _) dX0_speaker_23 (⟨by unfold spkF; first | (rw [if_neg (by grind)]; done) | (rw [if_neg (by grind)]; rfl) | (rw [if_pos (by grind)]; simp [vr_n, vr_s, *]; done), rfl⟩) (by omega) (by omega)

set_option maxRecDepth 20000 in
theorem c_X0_freeFor {cy : Nat → ClassId} {S : Nat → Nat → Nat} {I : kI} {L : kL} {R : kRf} {LP : List Nat} {a : Nat} (hsp : inLP R 14 3 LP) (ha : a ∈ LP) : Con yX0_freeFor cX0_freeFor 3 (some .int) 1 0 0 cy [.ref (ka S 3 0), .ref a] (wc cy S I L R LP) (kRet (some (.int (freeF I R a))) (wc cy S I L R LP)) kF := by
  refine Con_of (by decide +kernel) (Nat.le_of_ble_eq_true rfl) ?_
  refine J_eq (lv' := [(0, .ref (ka S 3 0)), (1, .ref a)]) rfl rfl rfl ?_
  refine J_iconst (v := 0) (by decide) dX0_freeFor_0 ?_
  refine J_istore_n (lv' := [(0, .ref (ka S 3 0)), (1, .ref a), (2, .int 0)]) (by decide) rfl dX0_freeFor_1 ?_
  refine J_iload_n 2 rfl dX0_freeFor_2 ?_
  refine J_aload_n 0 rfl dX0_freeFor_3 ?_
  refine gf_0_11 (n3 _) dX0_freeFor_4 ?_
  refine J_alen (v := 3) 5 (n14 _) rfl rfl rfl dX0_freeFor_7 ?_
  refine J_icmp_ge 36 (by decide) dX0_freeFor_8 (fun c1 => ?_) (fun c1 => ?_)
  · exact absurd c1 (by decide)
  refine J_aload_n 0 rfl dX0_freeFor_11 ?_
  refine gf_0_11 (n3 _) dX0_freeFor_12 ?_
  refine J_iload_n 2 rfl dX0_freeFor_15 ?_
  refine J_aald 0 5 (n14 _) rfl rfl (vp_in_iff.mpr (by decide)) (by decide) dX0_freeFor_16 ?_
  rcases opt_split (R 14 0 0) with o2 | ⟨a3, o2⟩
  · skip
    refine J_topv (v' := .null) (by first | rfl | (rw [o2]; rfl)) ?_
    refine J_ifnonnullN dX0_freeFor_17 ?_
    refine J_aload_n 1 rfl dX0_freeFor_20 ?_
    refine J_iload_n 2 rfl dX0_freeFor_21 ?_
    refine cv_0_29 (cells' := 0) (slots' := 0) dX0_freeFor_22 (c_X5_mayHave (by assumption)) (n20 (by assumption)) ⟨by decide, by decide⟩ rfl rfl (by decide) (by decide) (Nat.le_of_ble_eq_true rfl) (fun _ _ r4 => ?_) (fun _ _ h => h.elim)
    obtain ⟨rfl, rfl⟩ := r4
    refine J_eq (st' := [.int (kb (mayF I a 0))]) rfl rfl rfl ?_
    refine J_if_eq 30 (by decide) dX0_freeFor_25 (fun c5 => ?_) (fun c5 => ?_)
    · skip
      refine J_iinc (v := 1) (lv' := [(0, .ref (ka S 3 0)), (1, .ref a), (2, .int 1)]) 2 rfl (by decide) (by decide) rfl dX0_freeFor_30 ?_
      refine J_goto 2 (by decide) dX0_freeFor_33 ?_
      refine J_iload_n 2 rfl dX0_freeFor_2 ?_
      refine J_aload_n 0 rfl dX0_freeFor_3 ?_
      refine gf_0_11 (n3 _) dX0_freeFor_4 ?_
      refine J_alen (v := 3) 5 (n14 _) rfl rfl rfl dX0_freeFor_7 ?_
      refine J_icmp_ge 36 (by decide) dX0_freeFor_8 (fun c7 => ?_) (fun c7 => ?_)
      · exact absurd c7 (by decide)
      refine J_aload_n 0 rfl dX0_freeFor_11 ?_
      refine gf_0_11 (n3 _) dX0_freeFor_12 ?_
      refine J_iload_n 2 rfl dX0_freeFor_15 ?_
      refine J_aald 1 5 (n14 _) rfl rfl (vp_in_iff.mpr (by decide)) (by decide) dX0_freeFor_16 ?_
      rcases opt_split (R 14 0 1) with o8 | ⟨a9, o8⟩
      · skip
        refine J_topv (v' := .null) (by first | rfl | (rw [o8]; rfl)) ?_
        refine J_ifnonnullN dX0_freeFor_17 ?_
        refine J_aload_n 1 rfl dX0_freeFor_20 ?_
        refine J_iload_n 2 rfl dX0_freeFor_21 ?_
        refine cv_0_29 (cells' := 0) (slots' := 0) dX0_freeFor_22 (c_X5_mayHave (by assumption)) (n20 (by assumption)) ⟨by decide, by decide⟩ rfl rfl (by decide) (by decide) (Nat.le_of_ble_eq_true rfl) (fun _ _ r10 => ?_) (fun _ _ h => h.elim)
        obtain ⟨rfl, rfl⟩ := r10
        refine J_eq (st' := [.int (kb (mayF I a 1))]) rfl rfl rfl ?_
        refine J_topv (v' := .int 1) (by first | rfl | (rw [may_1]; rfl)) ?_
        refine J_if_eq 30 (by decide) dX0_freeFor_25 (fun c11 => ?_) (fun c11 => ?_)
        · exact absurd c11 (by decide)
        refine J_iload_n 2 rfl dX0_freeFor_28 ?_
        exact J_ireturn rfl (by first | rfl | assumption | simp [kb_nar]) dX0_freeFor_29 (⟨by (try simp only [kb_0, kb_1, kb_n0, kb_n1, decide_eq_false_iff_not, decide_eq_true_eq, ne_eq, Classical.not_not] at *); first | (simp [kb, kb_0, kb_1, vr_n, vr_s, freeF, may_1, may_2, *]; done) | (simp [kb, kb_0, kb_1, vr_n, vr_s, freeF, may_1, may_2, *] <;> grind), rfl⟩) (by omega) (by omega)
      · skip
        have ma9 : a9 ∈ LP := hsp _ _ (by decide) o8
        refine J_topv (v' := .ref a9) (by first | rfl | (rw [o8]; rfl)) ?_
        refine J_ifnonnull 30 (by decide) dX0_freeFor_17 ?_
        refine J_iinc (v := 2) (lv' := [(0, .ref (ka S 3 0)), (1, .ref a), (2, .int 2)]) 2 rfl (by decide) (by decide) rfl dX0_freeFor_30 ?_
        refine J_goto 2 (by decide) dX0_freeFor_33 ?_
        refine J_iload_n 2 rfl dX0_freeFor_2 ?_
        refine J_aload_n 0 rfl dX0_freeFor_3 ?_
        refine gf_0_11 (n3 _) dX0_freeFor_4 ?_
        refine J_alen (v := 3) 5 (n14 _) rfl rfl rfl dX0_freeFor_7 ?_
        refine J_icmp_ge 36 (by decide) dX0_freeFor_8 (fun c13 => ?_) (fun c13 => ?_)
        · exact absurd c13 (by decide)
        refine J_aload_n 0 rfl dX0_freeFor_11 ?_
        refine gf_0_11 (n3 _) dX0_freeFor_12 ?_
        refine J_iload_n 2 rfl dX0_freeFor_15 ?_
        refine J_aald 2 5 (n14 _) rfl rfl (vp_in_iff.mpr (by decide)) (by decide) dX0_freeFor_16 ?_
        rcases opt_split (R 14 0 2) with o14 | ⟨a15, o14⟩
        · skip
          refine J_topv (v' := .null) (by first | rfl | (rw [o14]; rfl)) ?_
          refine J_ifnonnullN dX0_freeFor_17 ?_
          refine J_aload_n 1 rfl dX0_freeFor_20 ?_
          refine J_iload_n 2 rfl dX0_freeFor_21 ?_
          refine cv_0_29 (cells' := 0) (slots' := 0) dX0_freeFor_22 (c_X5_mayHave (by assumption)) (n20 (by assumption)) ⟨by decide, by decide⟩ rfl rfl (by decide) (by decide) (Nat.le_of_ble_eq_true rfl) (fun _ _ r16 => ?_) (fun _ _ h => h.elim)
          obtain ⟨rfl, rfl⟩ := r16
          refine J_eq (st' := [.int (kb (mayF I a 2))]) rfl rfl rfl ?_
          refine J_topv (v' := .int 1) (by first | rfl | (rw [may_2]; rfl)) ?_
          refine J_if_eq 30 (by decide) dX0_freeFor_25 (fun c17 => ?_) (fun c17 => ?_)
          · exact absurd c17 (by decide)
          refine J_iload_n 2 rfl dX0_freeFor_28 ?_
          exact J_ireturn rfl (by first | rfl | assumption | simp [kb_nar]) dX0_freeFor_29 (⟨by (try simp only [kb_0, kb_1, kb_n0, kb_n1, decide_eq_false_iff_not, decide_eq_true_eq, ne_eq, Classical.not_not] at *); first | (simp [kb, kb_0, kb_1, vr_n, vr_s, freeF, may_1, may_2, *]; done) | (simp [kb, kb_0, kb_1, vr_n, vr_s, freeF, may_1, may_2, *] <;> grind), rfl⟩) (by omega) (by omega)
        · skip
          have ma15 : a15 ∈ LP := hsp _ _ (by decide) o14
          refine J_topv (v' := .ref a15) (by first | rfl | (rw [o14]; rfl)) ?_
          refine J_ifnonnull 30 (by decide) dX0_freeFor_17 ?_
          refine J_iinc (v := 3) (lv' := [(0, .ref (ka S 3 0)), (1, .ref a), (2, .int 3)]) 2 rfl (by decide) (by decide) rfl dX0_freeFor_30 ?_
          refine J_goto 2 (by decide) dX0_freeFor_33 ?_
          refine J_iload_n 2 rfl dX0_freeFor_2 ?_
          refine J_aload_n 0 rfl dX0_freeFor_3 ?_
          refine gf_0_11 (n3 _) dX0_freeFor_4 ?_
          refine J_alen (v := 3) 5 (n14 _) rfl rfl rfl dX0_freeFor_7 ?_
          refine J_icmp_ge 36 (by decide) dX0_freeFor_8 (fun c19 => ?_) (fun c19 => ?_)
          rotate_left
          · exact absurd (by decide) c19
          refine J_iconst (v := (-1)) (by decide) dX0_freeFor_36 ?_
          exact J_ireturn rfl (by first | rfl | assumption | simp [kb_nar]) dX0_freeFor_37 (⟨by (try simp only [kb_0, kb_1, kb_n0, kb_n1, decide_eq_false_iff_not, decide_eq_true_eq, ne_eq, Classical.not_not] at *); first | (simp [kb, kb_0, kb_1, vr_n, vr_s, freeF, may_1, may_2, *]; done) | (simp [kb, kb_0, kb_1, vr_n, vr_s, freeF, may_1, may_2, *] <;> grind), rfl⟩) (by omega) (by omega)
    · skip
      refine J_iload_n 2 rfl dX0_freeFor_28 ?_
      exact J_ireturn rfl (by first | rfl | assumption | simp [kb_nar]) dX0_freeFor_29 (⟨by (try simp only [kb_0, kb_1, kb_n0, kb_n1, decide_eq_false_iff_not, decide_eq_true_eq, ne_eq, Classical.not_not] at *); first | (simp [kb, kb_0, kb_1, vr_n, vr_s, freeF, may_1, may_2, *]; done) | (simp [kb, kb_0, kb_1, vr_n, vr_s, freeF, may_1, may_2, *] <;> grind), rfl⟩) (by omega) (by omega)
  · skip
    have ma3 : a3 ∈ LP := hsp _ _ (by decide) o2
    refine J_topv (v' := .ref a3) (by first | rfl | (rw [o2]; rfl)) ?_
    refine J_ifnonnull 30 (by decide) dX0_freeFor_17 ?_
    refine J_iinc (v := 1) (lv' := [(0, .ref (ka S 3 0)), (1, .ref a), (2, .int 1)]) 2 rfl (by decide) (by decide) rfl dX0_freeFor_30 ?_
    refine J_goto 2 (by decide) dX0_freeFor_33 ?_
    refine J_iload_n 2 rfl dX0_freeFor_2 ?_
    refine J_aload_n 0 rfl dX0_freeFor_3 ?_
    refine gf_0_11 (n3 _) dX0_freeFor_4 ?_
    refine J_alen (v := 3) 5 (n14 _) rfl rfl rfl dX0_freeFor_7 ?_
    refine J_icmp_ge 36 (by decide) dX0_freeFor_8 (fun c21 => ?_) (fun c21 => ?_)
    · exact absurd c21 (by decide)
    refine J_aload_n 0 rfl dX0_freeFor_11 ?_
    refine gf_0_11 (n3 _) dX0_freeFor_12 ?_
    refine J_iload_n 2 rfl dX0_freeFor_15 ?_
    refine J_aald 1 5 (n14 _) rfl rfl (vp_in_iff.mpr (by decide)) (by decide) dX0_freeFor_16 ?_
    rcases opt_split (R 14 0 1) with o22 | ⟨a23, o22⟩
    · skip
      refine J_topv (v' := .null) (by first | rfl | (rw [o22]; rfl)) ?_
      refine J_ifnonnullN dX0_freeFor_17 ?_
      refine J_aload_n 1 rfl dX0_freeFor_20 ?_
      refine J_iload_n 2 rfl dX0_freeFor_21 ?_
      refine cv_0_29 (cells' := 0) (slots' := 0) dX0_freeFor_22 (c_X5_mayHave (by assumption)) (n20 (by assumption)) ⟨by decide, by decide⟩ rfl rfl (by decide) (by decide) (Nat.le_of_ble_eq_true rfl) (fun _ _ r24 => ?_) (fun _ _ h => h.elim)
      obtain ⟨rfl, rfl⟩ := r24
      refine J_eq (st' := [.int (kb (mayF I a 1))]) rfl rfl rfl ?_
      refine J_topv (v' := .int 1) (by first | rfl | (rw [may_1]; rfl)) ?_
      refine J_if_eq 30 (by decide) dX0_freeFor_25 (fun c25 => ?_) (fun c25 => ?_)
      · exact absurd c25 (by decide)
      refine J_iload_n 2 rfl dX0_freeFor_28 ?_
      exact J_ireturn rfl (by first | rfl | assumption | simp [kb_nar]) dX0_freeFor_29 (⟨by (try simp only [kb_0, kb_1, kb_n0, kb_n1, decide_eq_false_iff_not, decide_eq_true_eq, ne_eq, Classical.not_not] at *); first | (simp [kb, kb_0, kb_1, vr_n, vr_s, freeF, may_1, may_2, *]; done) | (simp [kb, kb_0, kb_1, vr_n, vr_s, freeF, may_1, may_2, *] <;> grind), rfl⟩) (by omega) (by omega)
    · skip
      have ma23 : a23 ∈ LP := hsp _ _ (by decide) o22
      refine J_topv (v' := .ref a23) (by first | rfl | (rw [o22]; rfl)) ?_
      refine J_ifnonnull 30 (by decide) dX0_freeFor_17 ?_
      refine J_iinc (v := 2) (lv' := [(0, .ref (ka S 3 0)), (1, .ref a), (2, .int 2)]) 2 rfl (by decide) (by decide) rfl dX0_freeFor_30 ?_
      refine J_goto 2 (by decide) dX0_freeFor_33 ?_
      refine J_iload_n 2 rfl dX0_freeFor_2 ?_
      refine J_aload_n 0 rfl dX0_freeFor_3 ?_
      refine gf_0_11 (n3 _) dX0_freeFor_4 ?_
      refine J_alen (v := 3) 5 (n14 _) rfl rfl rfl dX0_freeFor_7 ?_
      refine J_icmp_ge 36 (by decide) dX0_freeFor_8 (fun c27 => ?_) (fun c27 => ?_)
      · exact absurd c27 (by decide)
      refine J_aload_n 0 rfl dX0_freeFor_11 ?_
      refine gf_0_11 (n3 _) dX0_freeFor_12 ?_
      refine J_iload_n 2 rfl dX0_freeFor_15 ?_
      refine J_aald 2 5 (n14 _) rfl rfl (vp_in_iff.mpr (by decide)) (by decide) dX0_freeFor_16 ?_
      rcases opt_split (R 14 0 2) with o28 | ⟨a29, o28⟩
      · skip
        refine J_topv (v' := .null) (by first | rfl | (rw [o28]; rfl)) ?_
        refine J_ifnonnullN dX0_freeFor_17 ?_
        refine J_aload_n 1 rfl dX0_freeFor_20 ?_
        refine J_iload_n 2 rfl dX0_freeFor_21 ?_
        refine cv_0_29 (cells' := 0) (slots' := 0) dX0_freeFor_22 (c_X5_mayHave (by assumption)) (n20 (by assumption)) ⟨by decide, by decide⟩ rfl rfl (by decide) (by decide) (Nat.le_of_ble_eq_true rfl) (fun _ _ r30 => ?_) (fun _ _ h => h.elim)
        obtain ⟨rfl, rfl⟩ := r30
        refine J_eq (st' := [.int (kb (mayF I a 2))]) rfl rfl rfl ?_
        refine J_topv (v' := .int 1) (by first | rfl | (rw [may_2]; rfl)) ?_
        refine J_if_eq 30 (by decide) dX0_freeFor_25 (fun c31 => ?_) (fun c31 => ?_)
        · exact absurd c31 (by decide)
        refine J_iload_n 2 rfl dX0_freeFor_28 ?_
        exact J_ireturn rfl (by first | rfl | assumption | simp [kb_nar]) dX0_freeFor_29 (⟨by (try simp only [kb_0, kb_1, kb_n0, kb_n1, decide_eq_false_iff_not, decide_eq_true_eq, ne_eq, Classical.not_not] at *); first | (simp [kb, kb_0, kb_1, vr_n, vr_s, freeF, may_1, may_2, *]; done) | (simp [kb, kb_0, kb_1, vr_n, vr_s, freeF, may_1, may_2, *] <;> grind), rfl⟩) (by omega) (by omega)
      · skip
        have ma29 : a29 ∈ LP := hsp _ _ (by decide) o28
        refine J_topv (v' := .ref a29) (by first | rfl | (rw [o28]; rfl)) ?_
        refine J_ifnonnull 30 (by decide) dX0_freeFor_17 ?_
        refine J_iinc (v := 3) (lv' := [(0, .ref (ka S 3 0)), (1, .ref a), (2, .int 3)]) 2 rfl (by decide) (by decide) rfl dX0_freeFor_30 ?_
        refine J_goto 2 (by decide) dX0_freeFor_33 ?_
        refine J_iload_n 2 rfl dX0_freeFor_2 ?_
        refine J_aload_n 0 rfl dX0_freeFor_3 ?_
        refine gf_0_11 (n3 _) dX0_freeFor_4 ?_
        refine J_alen (v := 3) 5 (n14 _) rfl rfl rfl dX0_freeFor_7 ?_
        refine J_icmp_ge 36 (by decide) dX0_freeFor_8 (fun c33 => ?_) (fun c33 => ?_)
        rotate_left
        · exact absurd (by decide) c33
        refine J_iconst (v := (-1)) (by decide) dX0_freeFor_36 ?_
        exact J_ireturn rfl (by first | rfl | assumption | simp [kb_nar]) dX0_freeFor_37 (⟨by (try simp only [kb_0, kb_1, kb_n0, kb_n1, decide_eq_false_iff_not, decide_eq_true_eq, ne_eq, Classical.not_not] at *); first | (simp [kb, kb_0, kb_1, vr_n, vr_s, freeF, may_1, may_2, *]; done) | (simp [kb, kb_0, kb_1, vr_n, vr_s, freeF, may_1, may_2, *] <;> grind), rfl⟩) (by omega) (by omega)

set_option maxRecDepth 20000 in
theorem c_X0_canTake {cy : Nat → ClassId} {S : Nat → Nat → Nat} {I : kI} {L : kL} {R : kRf} {LP : List Nat} {a : Nat} {v : Int32} (hsp : inLP R 14 3 LP) (ha : a ∈ LP) : Con yX0_canTake cX0_canTake 7 (some .boolean) 1 0 0 cy [.ref (ka S 3 0), .ref a, .int v] (wc cy S I L R LP) (kRet (some (.int (kb (takF I R a v)))) (wc cy S I L R LP)) kF := by
  refine Con_of (by decide +kernel) (Nat.le_of_ble_eq_true rfl) ?_
  refine J_eq (lv' := [(0, .ref (ka S 3 0)), (1, .ref a), (2, .int v)]) rfl rfl rfl ?_
  refine J_iconst (v := 0) (by decide) dX0_canTake_0 ?_
  refine J_istore_n (lv' := [(0, .ref (ka S 3 0)), (1, .ref a), (2, .int v), (3, .int 0)]) (by decide) rfl dX0_canTake_1 ?_
  refine J_iconst (v := 0) (by decide) dX0_canTake_2 ?_
  refine J_istore (lv' := [(0, .ref (ka S 3 0)), (1, .ref a), (2, .int v), (3, .int 0), (4, .int 0)]) (by decide) rfl dX0_canTake_3 ?_
  refine J_iload 4 rfl dX0_canTake_5 ?_
  refine J_aload_n 0 rfl dX0_canTake_7 ?_
  refine gf_0_11 (n3 _) dX0_canTake_8 ?_
  refine J_alen (v := 3) 5 (n14 _) rfl rfl rfl dX0_canTake_11 ?_
  refine J_icmp_ge 88 (by decide) dX0_canTake_12 (fun c1 => ?_) (fun c1 => ?_)
  · exact absurd c1 (by decide)
  refine J_aload_n 0 rfl dX0_canTake_15 ?_
  refine gf_0_11 (n3 _) dX0_canTake_16 ?_
  refine J_iload 4 rfl dX0_canTake_19 ?_
  refine J_aald 0 5 (n14 _) rfl rfl (vp_in_iff.mpr (by decide)) (by decide) dX0_canTake_21 ?_
  rcases opt_split (R 14 0 0) with o2 | ⟨a3, o2⟩
  · skip
    refine J_topv (v' := .null) (by first | rfl | (rw [o2]; rfl)) ?_
    refine J_astoreN (lv' := [(0, .ref (ka S 3 0)), (1, .ref a), (2, .int v), (3, .int 0), (4, .int 0), (5, .null)]) (by decide) rfl dX0_canTake_22 ?_
    refine J_aloadN 5 rfl dX0_canTake_24 ?_
    refine J_ifnullN 38 (by decide) dX0_canTake_26 ?_
    refine J_iconst (v := 1) (by decide) dX0_canTake_38 ?_
    refine J_goto 43 (by decide) dX0_canTake_39 ?_
    refine J_istore (lv' := [(0, .ref (ka S 3 0)), (1, .ref a), (2, .int v), (3, .int 0), (4, .int 0), (5, .null), (6, .int 1)]) (by decide) rfl dX0_canTake_43 ?_
    refine J_aloadN 5 rfl dX0_canTake_45 ?_
    refine J_ifnullN 66 (by decide) dX0_canTake_47 ?_
    refine J_iload 6 rfl dX0_canTake_66 ?_
    refine J_if_eq 82 (by decide) dX0_canTake_68 (fun c4 => ?_) (fun c4 => ?_)
    · exact absurd c4 (by decide)
    refine J_aload_n 1 rfl dX0_canTake_71 ?_
    refine J_iload 4 rfl dX0_canTake_72 ?_
    refine cv_0_29 (cells' := 0) (slots' := 0) dX0_canTake_74 (c_X5_mayHave (by assumption)) (n20 (by assumption)) ⟨by decide, by decide⟩ rfl rfl (by decide) (by decide) (Nat.le_of_ble_eq_true rfl) (fun _ _ r5 => ?_) (fun _ _ h => h.elim)
    obtain ⟨rfl, rfl⟩ := r5
    refine J_eq (st' := [.int (kb (mayF I a 0))]) rfl rfl rfl ?_
    refine J_if_eq 82 (by decide) dX0_canTake_77 (fun c6 => ?_) (fun c6 => ?_)
    · skip
      refine J_iinc (v := 1) (lv' := [(0, .ref (ka S 3 0)), (1, .ref a), (2, .int v), (3, .int 0), (4, .int 1), (5, .null), (6, .int 1)]) 4 rfl (by decide) (by decide) rfl dX0_canTake_82 ?_
      refine J_goto 5 (by decide) dX0_canTake_85 ?_
      refine J_iload 4 rfl dX0_canTake_5 ?_
      refine J_aload_n 0 rfl dX0_canTake_7 ?_
      refine gf_0_11 (n3 _) dX0_canTake_8 ?_
      refine J_alen (v := 3) 5 (n14 _) rfl rfl rfl dX0_canTake_11 ?_
      refine J_icmp_ge 88 (by decide) dX0_canTake_12 (fun c8 => ?_) (fun c8 => ?_)
      · exact absurd c8 (by decide)
      refine J_aload_n 0 rfl dX0_canTake_15 ?_
      refine gf_0_11 (n3 _) dX0_canTake_16 ?_
      refine J_iload 4 rfl dX0_canTake_19 ?_
      refine J_aald 1 5 (n14 _) rfl rfl (vp_in_iff.mpr (by decide)) (by decide) dX0_canTake_21 ?_
      rcases opt_split (R 14 0 1) with o9 | ⟨a10, o9⟩
      · skip
        refine J_topv (v' := .null) (by first | rfl | (rw [o9]; rfl)) ?_
        refine J_astoreN (lv' := [(0, .ref (ka S 3 0)), (1, .ref a), (2, .int v), (3, .int 0), (4, .int 1), (5, .null), (6, .int 1)]) (by decide) rfl dX0_canTake_22 ?_
        refine J_aloadN 5 rfl dX0_canTake_24 ?_
        refine J_ifnullN 38 (by decide) dX0_canTake_26 ?_
        refine J_iconst (v := 1) (by decide) dX0_canTake_38 ?_
        refine J_goto 43 (by decide) dX0_canTake_39 ?_
        refine J_istore (lv' := [(0, .ref (ka S 3 0)), (1, .ref a), (2, .int v), (3, .int 0), (4, .int 1), (5, .null), (6, .int 1)]) (by decide) rfl dX0_canTake_43 ?_
        refine J_aloadN 5 rfl dX0_canTake_45 ?_
        refine J_ifnullN 66 (by decide) dX0_canTake_47 ?_
        refine J_iload 6 rfl dX0_canTake_66 ?_
        refine J_if_eq 82 (by decide) dX0_canTake_68 (fun c11 => ?_) (fun c11 => ?_)
        · exact absurd c11 (by decide)
        refine J_aload_n 1 rfl dX0_canTake_71 ?_
        refine J_iload 4 rfl dX0_canTake_72 ?_
        refine cv_0_29 (cells' := 0) (slots' := 0) dX0_canTake_74 (c_X5_mayHave (by assumption)) (n20 (by assumption)) ⟨by decide, by decide⟩ rfl rfl (by decide) (by decide) (Nat.le_of_ble_eq_true rfl) (fun _ _ r12 => ?_) (fun _ _ h => h.elim)
        obtain ⟨rfl, rfl⟩ := r12
        refine J_eq (st' := [.int (kb (mayF I a 1))]) rfl rfl rfl ?_
        refine J_topv (v' := .int 1) (by first | rfl | (rw [may_1]; rfl)) ?_
        refine J_if_eq 82 (by decide) dX0_canTake_77 (fun c13 => ?_) (fun c13 => ?_)
        · exact absurd c13 (by decide)
        refine J_iconst (v := 1) (by decide) dX0_canTake_80 ?_
        refine J_istore_n (lv' := [(0, .ref (ka S 3 0)), (1, .ref a), (2, .int v), (3, .int 1), (4, .int 1), (5, .null), (6, .int 1)]) (by decide) rfl dX0_canTake_81 ?_
        refine J_iinc (v := 2) (lv' := [(0, .ref (ka S 3 0)), (1, .ref a), (2, .int v), (3, .int 1), (4, .int 2), (5, .null), (6, .int 1)]) 4 rfl (by decide) (by decide) rfl dX0_canTake_82 ?_
        refine J_goto 5 (by decide) dX0_canTake_85 ?_
        refine J_iload 4 rfl dX0_canTake_5 ?_
        refine J_aload_n 0 rfl dX0_canTake_7 ?_
        refine gf_0_11 (n3 _) dX0_canTake_8 ?_
        refine J_alen (v := 3) 5 (n14 _) rfl rfl rfl dX0_canTake_11 ?_
        refine J_icmp_ge 88 (by decide) dX0_canTake_12 (fun c15 => ?_) (fun c15 => ?_)
        · exact absurd c15 (by decide)
        refine J_aload_n 0 rfl dX0_canTake_15 ?_
        refine gf_0_11 (n3 _) dX0_canTake_16 ?_
        refine J_iload 4 rfl dX0_canTake_19 ?_
        refine J_aald 2 5 (n14 _) rfl rfl (vp_in_iff.mpr (by decide)) (by decide) dX0_canTake_21 ?_
        rcases opt_split (R 14 0 2) with o16 | ⟨a17, o16⟩
        · skip
          refine J_topv (v' := .null) (by first | rfl | (rw [o16]; rfl)) ?_
          refine J_astoreN (lv' := [(0, .ref (ka S 3 0)), (1, .ref a), (2, .int v), (3, .int 1), (4, .int 2), (5, .null), (6, .int 1)]) (by decide) rfl dX0_canTake_22 ?_
          refine J_aloadN 5 rfl dX0_canTake_24 ?_
          refine J_ifnullN 38 (by decide) dX0_canTake_26 ?_
          refine J_iconst (v := 1) (by decide) dX0_canTake_38 ?_
          refine J_goto 43 (by decide) dX0_canTake_39 ?_
          refine J_istore (lv' := [(0, .ref (ka S 3 0)), (1, .ref a), (2, .int v), (3, .int 1), (4, .int 2), (5, .null), (6, .int 1)]) (by decide) rfl dX0_canTake_43 ?_
          refine J_aloadN 5 rfl dX0_canTake_45 ?_
          refine J_ifnullN 66 (by decide) dX0_canTake_47 ?_
          refine J_iload 6 rfl dX0_canTake_66 ?_
          refine J_if_eq 82 (by decide) dX0_canTake_68 (fun c18 => ?_) (fun c18 => ?_)
          · exact absurd c18 (by decide)
          refine J_aload_n 1 rfl dX0_canTake_71 ?_
          refine J_iload 4 rfl dX0_canTake_72 ?_
          refine cv_0_29 (cells' := 0) (slots' := 0) dX0_canTake_74 (c_X5_mayHave (by assumption)) (n20 (by assumption)) ⟨by decide, by decide⟩ rfl rfl (by decide) (by decide) (Nat.le_of_ble_eq_true rfl) (fun _ _ r19 => ?_) (fun _ _ h => h.elim)
          obtain ⟨rfl, rfl⟩ := r19
          refine J_eq (st' := [.int (kb (mayF I a 2))]) rfl rfl rfl ?_
          refine J_topv (v' := .int 1) (by first | rfl | (rw [may_2]; rfl)) ?_
          refine J_if_eq 82 (by decide) dX0_canTake_77 (fun c20 => ?_) (fun c20 => ?_)
          · exact absurd c20 (by decide)
          refine J_iconst (v := 1) (by decide) dX0_canTake_80 ?_
          refine J_istore_n (lv' := [(0, .ref (ka S 3 0)), (1, .ref a), (2, .int v), (3, .int 1), (4, .int 2), (5, .null), (6, .int 1)]) (by decide) rfl dX0_canTake_81 ?_
          refine J_iinc (v := 3) (lv' := [(0, .ref (ka S 3 0)), (1, .ref a), (2, .int v), (3, .int 1), (4, .int 3), (5, .null), (6, .int 1)]) 4 rfl (by decide) (by decide) rfl dX0_canTake_82 ?_
          refine J_goto 5 (by decide) dX0_canTake_85 ?_
          refine J_iload 4 rfl dX0_canTake_5 ?_
          refine J_aload_n 0 rfl dX0_canTake_7 ?_
          refine gf_0_11 (n3 _) dX0_canTake_8 ?_
          refine J_alen (v := 3) 5 (n14 _) rfl rfl rfl dX0_canTake_11 ?_
          refine J_icmp_ge 88 (by decide) dX0_canTake_12 (fun c22 => ?_) (fun c22 => ?_)
          rotate_left
          · exact absurd (by decide) c22
          refine J_iload_n 2 rfl dX0_canTake_88 ?_
          refine J_if_eq 100 (by decide) dX0_canTake_89 (fun c23 => ?_) (fun c23 => ?_)
          · skip
            refine J_iconst (v := 0) (by decide) dX0_canTake_100 ?_
            exact J_ireturn rfl (by first | rfl | assumption | simp [kb_nar]) dX0_canTake_101 (⟨by (try simp only [kb_0, kb_1, kb_n0, kb_n1, decide_eq_false_iff_not, decide_eq_true_eq, ne_eq, Classical.not_not] at *); first | (simp [kb, kb_0, kb_1, vr_n, vr_s, takF, may_1, may_2, havF_n, havF_s, shF_none, shF_some, *]; done) | (simp [kb, kb_0, kb_1, vr_n, vr_s, takF, may_1, may_2, havF_n, havF_s, shF_none, shF_some, *] <;> grind), rfl⟩) (by omega) (by omega)
          · skip
            refine J_iload_n 3 rfl dX0_canTake_92 ?_
            refine J_if_eq 100 (by decide) dX0_canTake_93 (fun c24 => ?_) (fun c24 => ?_)
            · exact absurd c24 (by decide)
            refine J_iconst (v := 1) (by decide) dX0_canTake_96 ?_
            refine J_goto 101 (by decide) dX0_canTake_97 ?_
            exact J_ireturn rfl (by first | rfl | assumption | simp [kb_nar]) dX0_canTake_101 (⟨by (try simp only [kb_0, kb_1, kb_n0, kb_n1, decide_eq_false_iff_not, decide_eq_true_eq, ne_eq, Classical.not_not] at *); first | (simp [kb, kb_0, kb_1, vr_n, vr_s, takF, may_1, may_2, havF_n, havF_s, shF_none, shF_some, *]; done) | (simp [kb, kb_0, kb_1, vr_n, vr_s, takF, may_1, may_2, havF_n, havF_s, shF_none, shF_some, *] <;> grind), rfl⟩) (by omega) (by omega)
        · skip
          have ma17 : a17 ∈ LP := hsp _ _ (by decide) o16
          refine J_topv (v' := .ref a17) (by first | rfl | (rw [o16]; rfl)) ?_
          refine J_astore (lv' := [(0, .ref (ka S 3 0)), (1, .ref a), (2, .int v), (3, .int 1), (4, .int 2), (5, .ref a17), (6, .int 1)]) (by decide) rfl dX0_canTake_22 ?_
          refine J_aload 5 rfl dX0_canTake_24 ?_
          refine J_ifnull dX0_canTake_26 ?_
          refine J_aload_n 1 rfl dX0_canTake_29 ?_
          refine J_aload 5 rfl dX0_canTake_30 ?_
          refine cv_0_25 (cells' := 0) (slots' := 0) dX0_canTake_32 (c_X5_canBreakInOn (by assumption) (by assumption)) (n20 (by assumption)) ⟨by decide, by decide⟩ rfl rfl (by decide) (by decide) (Nat.le_of_ble_eq_true rfl) (fun _ _ r25 => ?_) (fun _ _ h => h.elim)
          obtain ⟨rfl, rfl⟩ := r25
          refine J_eq (st' := [.int (kb (brkF I a a17))]) rfl rfl rfl ?_
          refine J_if_eq 42 (by decide) dX0_canTake_35 (fun c26 => ?_) (fun c26 => ?_)
          · skip
            refine J_iconst (v := 0) (by decide) dX0_canTake_42 ?_
            refine J_istore (lv' := [(0, .ref (ka S 3 0)), (1, .ref a), (2, .int v), (3, .int 1), (4, .int 2), (5, .ref a17), (6, .int 0)]) (by decide) rfl dX0_canTake_43 ?_
            refine J_aload 5 rfl dX0_canTake_45 ?_
            refine J_ifnull dX0_canTake_47 ?_
            refine J_iload 6 rfl dX0_canTake_50 ?_
            refine J_if_ne 66 (by decide) dX0_canTake_52 (fun c27 => ?_) (fun c27 => ?_)
            · exact absurd (by decide) c27
            refine J_aload 5 rfl dX0_canTake_55 ?_
            refine J_iload_n 2 rfl dX0_canTake_57 ?_
            refine cv_0_21 (cells' := 0) (slots' := 0) dX0_canTake_58 (c_X5_sharesStationWith (by assumption)) (n20 (by assumption)) ⟨by decide, by decide⟩ rfl rfl (by decide) (by decide) (Nat.le_of_ble_eq_true rfl) (fun _ _ r28 => ?_) (fun _ _ h => h.elim)
            obtain ⟨rfl, rfl⟩ := r28
            refine J_eq (st' := [.int (kb (shrF I a17 v))]) rfl rfl rfl ?_
            refine J_if_eq 66 (by decide) dX0_canTake_61 (fun c29 => ?_) (fun c29 => ?_)
            · skip
              refine J_iload 6 rfl dX0_canTake_66 ?_
              refine J_if_eq 82 (by decide) dX0_canTake_68 (fun c30 => ?_) (fun c30 => ?_)
              rotate_left
              · exact absurd (by decide) c30
              refine J_iinc (v := 3) (lv' := [(0, .ref (ka S 3 0)), (1, .ref a), (2, .int v), (3, .int 1), (4, .int 3), (5, .ref a17), (6, .int 0)]) 4 rfl (by decide) (by decide) rfl dX0_canTake_82 ?_
              refine J_goto 5 (by decide) dX0_canTake_85 ?_
              refine J_iload 4 rfl dX0_canTake_5 ?_
              refine J_aload_n 0 rfl dX0_canTake_7 ?_
              refine gf_0_11 (n3 _) dX0_canTake_8 ?_
              refine J_alen (v := 3) 5 (n14 _) rfl rfl rfl dX0_canTake_11 ?_
              refine J_icmp_ge 88 (by decide) dX0_canTake_12 (fun c32 => ?_) (fun c32 => ?_)
              rotate_left
              · exact absurd (by decide) c32
              refine J_iload_n 2 rfl dX0_canTake_88 ?_
              refine J_if_eq 100 (by decide) dX0_canTake_89 (fun c33 => ?_) (fun c33 => ?_)
              · skip
                refine J_iconst (v := 0) (by decide) dX0_canTake_100 ?_
                exact J_ireturn rfl (by first | rfl | assumption | simp [kb_nar]) dX0_canTake_101 (⟨by (try simp only [kb_0, kb_1, kb_n0, kb_n1, decide_eq_false_iff_not, decide_eq_true_eq, ne_eq, Classical.not_not] at *); first | (simp [kb, kb_0, kb_1, vr_n, vr_s, takF, may_1, may_2, havF_n, havF_s, shF_none, shF_some, *]; done) | (simp [kb, kb_0, kb_1, vr_n, vr_s, takF, may_1, may_2, havF_n, havF_s, shF_none, shF_some, *] <;> grind), rfl⟩) (by omega) (by omega)
              · skip
                refine J_iload_n 3 rfl dX0_canTake_92 ?_
                refine J_if_eq 100 (by decide) dX0_canTake_93 (fun c34 => ?_) (fun c34 => ?_)
                · exact absurd c34 (by decide)
                refine J_iconst (v := 1) (by decide) dX0_canTake_96 ?_
                refine J_goto 101 (by decide) dX0_canTake_97 ?_
                exact J_ireturn rfl (by first | rfl | assumption | simp [kb_nar]) dX0_canTake_101 (⟨by (try simp only [kb_0, kb_1, kb_n0, kb_n1, decide_eq_false_iff_not, decide_eq_true_eq, ne_eq, Classical.not_not] at *); first | (simp [kb, kb_0, kb_1, vr_n, vr_s, takF, may_1, may_2, havF_n, havF_s, shF_none, shF_some, *]; done) | (simp [kb, kb_0, kb_1, vr_n, vr_s, takF, may_1, may_2, havF_n, havF_s, shF_none, shF_some, *] <;> grind), rfl⟩) (by omega) (by omega)
            · skip
              refine J_iconst (v := 0) (by decide) dX0_canTake_64 ?_
              exact J_ireturn rfl (by first | rfl | assumption | simp [kb_nar]) dX0_canTake_65 (⟨by (try simp only [kb_0, kb_1, kb_n0, kb_n1, decide_eq_false_iff_not, decide_eq_true_eq, ne_eq, Classical.not_not] at *); first | (simp [kb, kb_0, kb_1, vr_n, vr_s, takF, may_1, may_2, havF_n, havF_s, shF_none, shF_some, *]; done) | (simp [kb, kb_0, kb_1, vr_n, vr_s, takF, may_1, may_2, havF_n, havF_s, shF_none, shF_some, *] <;> grind), rfl⟩) (by omega) (by omega)
          · skip
            refine J_iconst (v := 1) (by decide) dX0_canTake_38 ?_
            refine J_goto 43 (by decide) dX0_canTake_39 ?_
            refine J_istore (lv' := [(0, .ref (ka S 3 0)), (1, .ref a), (2, .int v), (3, .int 1), (4, .int 2), (5, .ref a17), (6, .int 1)]) (by decide) rfl dX0_canTake_43 ?_
            refine J_aload 5 rfl dX0_canTake_45 ?_
            refine J_ifnull dX0_canTake_47 ?_
            refine J_iload 6 rfl dX0_canTake_50 ?_
            refine J_if_ne 66 (by decide) dX0_canTake_52 (fun c35 => ?_) (fun c35 => ?_)
            rotate_left
            · exact absurd c35 (by decide)
            refine J_iload 6 rfl dX0_canTake_66 ?_
            refine J_if_eq 82 (by decide) dX0_canTake_68 (fun c36 => ?_) (fun c36 => ?_)
            · exact absurd c36 (by decide)
            refine J_aload_n 1 rfl dX0_canTake_71 ?_
            refine J_iload 4 rfl dX0_canTake_72 ?_
            refine cv_0_29 (cells' := 0) (slots' := 0) dX0_canTake_74 (c_X5_mayHave (by assumption)) (n20 (by assumption)) ⟨by decide, by decide⟩ rfl rfl (by decide) (by decide) (Nat.le_of_ble_eq_true rfl) (fun _ _ r37 => ?_) (fun _ _ h => h.elim)
            obtain ⟨rfl, rfl⟩ := r37
            refine J_eq (st' := [.int (kb (mayF I a 2))]) rfl rfl rfl ?_
            refine J_topv (v' := .int 1) (by first | rfl | (rw [may_2]; rfl)) ?_
            refine J_if_eq 82 (by decide) dX0_canTake_77 (fun c38 => ?_) (fun c38 => ?_)
            · exact absurd c38 (by decide)
            refine J_iconst (v := 1) (by decide) dX0_canTake_80 ?_
            refine J_istore_n (lv' := [(0, .ref (ka S 3 0)), (1, .ref a), (2, .int v), (3, .int 1), (4, .int 2), (5, .ref a17), (6, .int 1)]) (by decide) rfl dX0_canTake_81 ?_
            refine J_iinc (v := 3) (lv' := [(0, .ref (ka S 3 0)), (1, .ref a), (2, .int v), (3, .int 1), (4, .int 3), (5, .ref a17), (6, .int 1)]) 4 rfl (by decide) (by decide) rfl dX0_canTake_82 ?_
            refine J_goto 5 (by decide) dX0_canTake_85 ?_
            refine J_iload 4 rfl dX0_canTake_5 ?_
            refine J_aload_n 0 rfl dX0_canTake_7 ?_
            refine gf_0_11 (n3 _) dX0_canTake_8 ?_
            refine J_alen (v := 3) 5 (n14 _) rfl rfl rfl dX0_canTake_11 ?_
            refine J_icmp_ge 88 (by decide) dX0_canTake_12 (fun c40 => ?_) (fun c40 => ?_)
            rotate_left
            · exact absurd (by decide) c40
            refine J_iload_n 2 rfl dX0_canTake_88 ?_
            refine J_if_eq 100 (by decide) dX0_canTake_89 (fun c41 => ?_) (fun c41 => ?_)
            · skip
              refine J_iconst (v := 0) (by decide) dX0_canTake_100 ?_
              exact J_ireturn rfl (by first | rfl | assumption | simp [kb_nar]) dX0_canTake_101 (⟨by (try simp only [kb_0, kb_1, kb_n0, kb_n1, decide_eq_false_iff_not, decide_eq_true_eq, ne_eq, Classical.not_not] at *); first | (simp [kb, kb_0, kb_1, vr_n, vr_s, takF, may_1, may_2, havF_n, havF_s, shF_none, shF_some, *]; done) | (simp [kb, kb_0, kb_1, vr_n, vr_s, takF, may_1, may_2, havF_n, havF_s, shF_none, shF_some, *] <;> grind), rfl⟩) (by omega) (by omega)
            · skip
              refine J_iload_n 3 rfl dX0_canTake_92 ?_
              refine J_if_eq 100 (by decide) dX0_canTake_93 (fun c42 => ?_) (fun c42 => ?_)
              · exact absurd c42 (by decide)
              refine J_iconst (v := 1) (by decide) dX0_canTake_96 ?_
              refine J_goto 101 (by decide) dX0_canTake_97 ?_
              exact J_ireturn rfl (by first | rfl | assumption | simp [kb_nar]) dX0_canTake_101 (⟨by (try simp only [kb_0, kb_1, kb_n0, kb_n1, decide_eq_false_iff_not, decide_eq_true_eq, ne_eq, Classical.not_not] at *); first | (simp [kb, kb_0, kb_1, vr_n, vr_s, takF, may_1, may_2, havF_n, havF_s, shF_none, shF_some, *]; done) | (simp [kb, kb_0, kb_1, vr_n, vr_s, takF, may_1, may_2, havF_n, havF_s, shF_none, shF_some, *] <;> grind), rfl⟩) (by omega) (by omega)
      · skip
        have ma10 : a10 ∈ LP := hsp _ _ (by decide) o9
        refine J_topv (v' := .ref a10) (by first | rfl | (rw [o9]; rfl)) ?_
        refine J_astore (lv' := [(0, .ref (ka S 3 0)), (1, .ref a), (2, .int v), (3, .int 0), (4, .int 1), (5, .ref a10), (6, .int 1)]) (by decide) rfl dX0_canTake_22 ?_
        refine J_aload 5 rfl dX0_canTake_24 ?_
        refine J_ifnull dX0_canTake_26 ?_
        refine J_aload_n 1 rfl dX0_canTake_29 ?_
        refine J_aload 5 rfl dX0_canTake_30 ?_
        refine cv_0_25 (cells' := 0) (slots' := 0) dX0_canTake_32 (c_X5_canBreakInOn (by assumption) (by assumption)) (n20 (by assumption)) ⟨by decide, by decide⟩ rfl rfl (by decide) (by decide) (Nat.le_of_ble_eq_true rfl) (fun _ _ r43 => ?_) (fun _ _ h => h.elim)
        obtain ⟨rfl, rfl⟩ := r43
        refine J_eq (st' := [.int (kb (brkF I a a10))]) rfl rfl rfl ?_
        refine J_if_eq 42 (by decide) dX0_canTake_35 (fun c44 => ?_) (fun c44 => ?_)
        · skip
          refine J_iconst (v := 0) (by decide) dX0_canTake_42 ?_
          refine J_istore (lv' := [(0, .ref (ka S 3 0)), (1, .ref a), (2, .int v), (3, .int 0), (4, .int 1), (5, .ref a10), (6, .int 0)]) (by decide) rfl dX0_canTake_43 ?_
          refine J_aload 5 rfl dX0_canTake_45 ?_
          refine J_ifnull dX0_canTake_47 ?_
          refine J_iload 6 rfl dX0_canTake_50 ?_
          refine J_if_ne 66 (by decide) dX0_canTake_52 (fun c45 => ?_) (fun c45 => ?_)
          · exact absurd (by decide) c45
          refine J_aload 5 rfl dX0_canTake_55 ?_
          refine J_iload_n 2 rfl dX0_canTake_57 ?_
          refine cv_0_21 (cells' := 0) (slots' := 0) dX0_canTake_58 (c_X5_sharesStationWith (by assumption)) (n20 (by assumption)) ⟨by decide, by decide⟩ rfl rfl (by decide) (by decide) (Nat.le_of_ble_eq_true rfl) (fun _ _ r46 => ?_) (fun _ _ h => h.elim)
          obtain ⟨rfl, rfl⟩ := r46
          refine J_eq (st' := [.int (kb (shrF I a10 v))]) rfl rfl rfl ?_
          refine J_if_eq 66 (by decide) dX0_canTake_61 (fun c47 => ?_) (fun c47 => ?_)
          · skip
            refine J_iload 6 rfl dX0_canTake_66 ?_
            refine J_if_eq 82 (by decide) dX0_canTake_68 (fun c48 => ?_) (fun c48 => ?_)
            rotate_left
            · exact absurd (by decide) c48
            refine J_iinc (v := 2) (lv' := [(0, .ref (ka S 3 0)), (1, .ref a), (2, .int v), (3, .int 0), (4, .int 2), (5, .ref a10), (6, .int 0)]) 4 rfl (by decide) (by decide) rfl dX0_canTake_82 ?_
            refine J_goto 5 (by decide) dX0_canTake_85 ?_
            refine J_iload 4 rfl dX0_canTake_5 ?_
            refine J_aload_n 0 rfl dX0_canTake_7 ?_
            refine gf_0_11 (n3 _) dX0_canTake_8 ?_
            refine J_alen (v := 3) 5 (n14 _) rfl rfl rfl dX0_canTake_11 ?_
            refine J_icmp_ge 88 (by decide) dX0_canTake_12 (fun c50 => ?_) (fun c50 => ?_)
            · exact absurd c50 (by decide)
            refine J_aload_n 0 rfl dX0_canTake_15 ?_
            refine gf_0_11 (n3 _) dX0_canTake_16 ?_
            refine J_iload 4 rfl dX0_canTake_19 ?_
            refine J_aald 2 5 (n14 _) rfl rfl (vp_in_iff.mpr (by decide)) (by decide) dX0_canTake_21 ?_
            rcases opt_split (R 14 0 2) with o51 | ⟨a52, o51⟩
            · skip
              refine J_topv (v' := .null) (by first | rfl | (rw [o51]; rfl)) ?_
              refine J_astoreN (lv' := [(0, .ref (ka S 3 0)), (1, .ref a), (2, .int v), (3, .int 0), (4, .int 2), (5, .null), (6, .int 0)]) (by decide) rfl dX0_canTake_22 ?_
              refine J_aloadN 5 rfl dX0_canTake_24 ?_
              refine J_ifnullN 38 (by decide) dX0_canTake_26 ?_
              refine J_iconst (v := 1) (by decide) dX0_canTake_38 ?_
              refine J_goto 43 (by decide) dX0_canTake_39 ?_
              refine J_istore (lv' := [(0, .ref (ka S 3 0)), (1, .ref a), (2, .int v), (3, .int 0), (4, .int 2), (5, .null), (6, .int 1)]) (by decide) rfl dX0_canTake_43 ?_
              refine J_aloadN 5 rfl dX0_canTake_45 ?_
              refine J_ifnullN 66 (by decide) dX0_canTake_47 ?_
              refine J_iload 6 rfl dX0_canTake_66 ?_
              refine J_if_eq 82 (by decide) dX0_canTake_68 (fun c53 => ?_) (fun c53 => ?_)
              · exact absurd c53 (by decide)
              refine J_aload_n 1 rfl dX0_canTake_71 ?_
              refine J_iload 4 rfl dX0_canTake_72 ?_
              refine cv_0_29 (cells' := 0) (slots' := 0) dX0_canTake_74 (c_X5_mayHave (by assumption)) (n20 (by assumption)) ⟨by decide, by decide⟩ rfl rfl (by decide) (by decide) (Nat.le_of_ble_eq_true rfl) (fun _ _ r54 => ?_) (fun _ _ h => h.elim)
              obtain ⟨rfl, rfl⟩ := r54
              refine J_eq (st' := [.int (kb (mayF I a 2))]) rfl rfl rfl ?_
              refine J_topv (v' := .int 1) (by first | rfl | (rw [may_2]; rfl)) ?_
              refine J_if_eq 82 (by decide) dX0_canTake_77 (fun c55 => ?_) (fun c55 => ?_)
              · exact absurd c55 (by decide)
              refine J_iconst (v := 1) (by decide) dX0_canTake_80 ?_
              refine J_istore_n (lv' := [(0, .ref (ka S 3 0)), (1, .ref a), (2, .int v), (3, .int 1), (4, .int 2), (5, .null), (6, .int 1)]) (by decide) rfl dX0_canTake_81 ?_
              refine J_iinc (v := 3) (lv' := [(0, .ref (ka S 3 0)), (1, .ref a), (2, .int v), (3, .int 1), (4, .int 3), (5, .null), (6, .int 1)]) 4 rfl (by decide) (by decide) rfl dX0_canTake_82 ?_
              refine J_goto 5 (by decide) dX0_canTake_85 ?_
              refine J_iload 4 rfl dX0_canTake_5 ?_
              refine J_aload_n 0 rfl dX0_canTake_7 ?_
              refine gf_0_11 (n3 _) dX0_canTake_8 ?_
              refine J_alen (v := 3) 5 (n14 _) rfl rfl rfl dX0_canTake_11 ?_
              refine J_icmp_ge 88 (by decide) dX0_canTake_12 (fun c57 => ?_) (fun c57 => ?_)
              rotate_left
              · exact absurd (by decide) c57
              refine J_iload_n 2 rfl dX0_canTake_88 ?_
              refine J_if_eq 100 (by decide) dX0_canTake_89 (fun c58 => ?_) (fun c58 => ?_)
              · skip
                refine J_iconst (v := 0) (by decide) dX0_canTake_100 ?_
                exact J_ireturn rfl (by first | rfl | assumption | simp [kb_nar]) dX0_canTake_101 (⟨by (try simp only [kb_0, kb_1, kb_n0, kb_n1, decide_eq_false_iff_not, decide_eq_true_eq, ne_eq, Classical.not_not] at *); first | (simp [kb, kb_0, kb_1, vr_n, vr_s, takF, may_1, may_2, havF_n, havF_s, shF_none, shF_some, *]; done) | (simp [kb, kb_0, kb_1, vr_n, vr_s, takF, may_1, may_2, havF_n, havF_s, shF_none, shF_some, *] <;> grind), rfl⟩) (by omega) (by omega)
              · skip
                refine J_iload_n 3 rfl dX0_canTake_92 ?_
                refine J_if_eq 100 (by decide) dX0_canTake_93 (fun c59 => ?_) (fun c59 => ?_)
                · exact absurd c59 (by decide)
                refine J_iconst (v := 1) (by decide) dX0_canTake_96 ?_
                refine J_goto 101 (by decide) dX0_canTake_97 ?_
                exact J_ireturn rfl (by first | rfl | assumption | simp [kb_nar]) dX0_canTake_101 (⟨by (try simp only [kb_0, kb_1, kb_n0, kb_n1, decide_eq_false_iff_not, decide_eq_true_eq, ne_eq, Classical.not_not] at *); first | (simp [kb, kb_0, kb_1, vr_n, vr_s, takF, may_1, may_2, havF_n, havF_s, shF_none, shF_some, *]; done) | (simp [kb, kb_0, kb_1, vr_n, vr_s, takF, may_1, may_2, havF_n, havF_s, shF_none, shF_some, *] <;> grind), rfl⟩) (by omega) (by omega)
            · skip
              have ma52 : a52 ∈ LP := hsp _ _ (by decide) o51
              refine J_topv (v' := .ref a52) (by first | rfl | (rw [o51]; rfl)) ?_
              refine J_astore (lv' := [(0, .ref (ka S 3 0)), (1, .ref a), (2, .int v), (3, .int 0), (4, .int 2), (5, .ref a52), (6, .int 0)]) (by decide) rfl dX0_canTake_22 ?_
              refine J_aload 5 rfl dX0_canTake_24 ?_
              refine J_ifnull dX0_canTake_26 ?_
              refine J_aload_n 1 rfl dX0_canTake_29 ?_
              refine J_aload 5 rfl dX0_canTake_30 ?_
              refine cv_0_25 (cells' := 0) (slots' := 0) dX0_canTake_32 (c_X5_canBreakInOn (by assumption) (by assumption)) (n20 (by assumption)) ⟨by decide, by decide⟩ rfl rfl (by decide) (by decide) (Nat.le_of_ble_eq_true rfl) (fun _ _ r60 => ?_) (fun _ _ h => h.elim)
              obtain ⟨rfl, rfl⟩ := r60
              refine J_eq (st' := [.int (kb (brkF I a a52))]) rfl rfl rfl ?_
              refine J_if_eq 42 (by decide) dX0_canTake_35 (fun c61 => ?_) (fun c61 => ?_)
              · skip
                refine J_iconst (v := 0) (by decide) dX0_canTake_42 ?_
                refine J_istore (lv' := [(0, .ref (ka S 3 0)), (1, .ref a), (2, .int v), (3, .int 0), (4, .int 2), (5, .ref a52), (6, .int 0)]) (by decide) rfl dX0_canTake_43 ?_
                refine J_aload 5 rfl dX0_canTake_45 ?_
                refine J_ifnull dX0_canTake_47 ?_
                refine J_iload 6 rfl dX0_canTake_50 ?_
                refine J_if_ne 66 (by decide) dX0_canTake_52 (fun c62 => ?_) (fun c62 => ?_)
                · exact absurd (by decide) c62
                refine J_aload 5 rfl dX0_canTake_55 ?_
                refine J_iload_n 2 rfl dX0_canTake_57 ?_
                refine cv_0_21 (cells' := 0) (slots' := 0) dX0_canTake_58 (c_X5_sharesStationWith (by assumption)) (n20 (by assumption)) ⟨by decide, by decide⟩ rfl rfl (by decide) (by decide) (Nat.le_of_ble_eq_true rfl) (fun _ _ r63 => ?_) (fun _ _ h => h.elim)
                obtain ⟨rfl, rfl⟩ := r63
                refine J_eq (st' := [.int (kb (shrF I a52 v))]) rfl rfl rfl ?_
                refine J_if_eq 66 (by decide) dX0_canTake_61 (fun c64 => ?_) (fun c64 => ?_)
                · skip
                  refine J_iload 6 rfl dX0_canTake_66 ?_
                  refine J_if_eq 82 (by decide) dX0_canTake_68 (fun c65 => ?_) (fun c65 => ?_)
                  rotate_left
                  · exact absurd (by decide) c65
                  refine J_iinc (v := 3) (lv' := [(0, .ref (ka S 3 0)), (1, .ref a), (2, .int v), (3, .int 0), (4, .int 3), (5, .ref a52), (6, .int 0)]) 4 rfl (by decide) (by decide) rfl dX0_canTake_82 ?_
                  refine J_goto 5 (by decide) dX0_canTake_85 ?_
                  refine J_iload 4 rfl dX0_canTake_5 ?_
                  refine J_aload_n 0 rfl dX0_canTake_7 ?_
                  refine gf_0_11 (n3 _) dX0_canTake_8 ?_
                  refine J_alen (v := 3) 5 (n14 _) rfl rfl rfl dX0_canTake_11 ?_
                  refine J_icmp_ge 88 (by decide) dX0_canTake_12 (fun c67 => ?_) (fun c67 => ?_)
                  rotate_left
                  · exact absurd (by decide) c67
                  refine J_iload_n 2 rfl dX0_canTake_88 ?_
                  refine J_if_eq 100 (by decide) dX0_canTake_89 (fun c68 => ?_) (fun c68 => ?_)
                  · skip
                    refine J_iconst (v := 0) (by decide) dX0_canTake_100 ?_
                    exact J_ireturn rfl (by first | rfl | assumption | simp [kb_nar]) dX0_canTake_101 (⟨by (try simp only [kb_0, kb_1, kb_n0, kb_n1, decide_eq_false_iff_not, decide_eq_true_eq, ne_eq, Classical.not_not] at *); first | (simp [kb, kb_0, kb_1, vr_n, vr_s, takF, may_1, may_2, havF_n, havF_s, shF_none, shF_some, *]; done) | (simp [kb, kb_0, kb_1, vr_n, vr_s, takF, may_1, may_2, havF_n, havF_s, shF_none, shF_some, *] <;> grind), rfl⟩) (by omega) (by omega)
                  · skip
                    refine J_iload_n 3 rfl dX0_canTake_92 ?_
                    refine J_if_eq 100 (by decide) dX0_canTake_93 (fun c69 => ?_) (fun c69 => ?_)
                    rotate_left
                    · exact absurd (by decide) c69
                    refine J_iconst (v := 0) (by decide) dX0_canTake_100 ?_
                    exact J_ireturn rfl (by first | rfl | assumption | simp [kb_nar]) dX0_canTake_101 (⟨by (try simp only [kb_0, kb_1, kb_n0, kb_n1, decide_eq_false_iff_not, decide_eq_true_eq, ne_eq, Classical.not_not] at *); first | (simp [kb, kb_0, kb_1, vr_n, vr_s, takF, may_1, may_2, havF_n, havF_s, shF_none, shF_some, *]; done) | (simp [kb, kb_0, kb_1, vr_n, vr_s, takF, may_1, may_2, havF_n, havF_s, shF_none, shF_some, *] <;> grind), rfl⟩) (by omega) (by omega)
                · skip
                  refine J_iconst (v := 0) (by decide) dX0_canTake_64 ?_
                  exact J_ireturn rfl (by first | rfl | assumption | simp [kb_nar]) dX0_canTake_65 (⟨by (try simp only [kb_0, kb_1, kb_n0, kb_n1, decide_eq_false_iff_not, decide_eq_true_eq, ne_eq, Classical.not_not] at *); first | (simp [kb, kb_0, kb_1, vr_n, vr_s, takF, may_1, may_2, havF_n, havF_s, shF_none, shF_some, *]; done) | (simp [kb, kb_0, kb_1, vr_n, vr_s, takF, may_1, may_2, havF_n, havF_s, shF_none, shF_some, *] <;> grind), rfl⟩) (by omega) (by omega)
              · skip
                refine J_iconst (v := 1) (by decide) dX0_canTake_38 ?_
                refine J_goto 43 (by decide) dX0_canTake_39 ?_
                refine J_istore (lv' := [(0, .ref (ka S 3 0)), (1, .ref a), (2, .int v), (3, .int 0), (4, .int 2), (5, .ref a52), (6, .int 1)]) (by decide) rfl dX0_canTake_43 ?_
                refine J_aload 5 rfl dX0_canTake_45 ?_
                refine J_ifnull dX0_canTake_47 ?_
                refine J_iload 6 rfl dX0_canTake_50 ?_
                refine J_if_ne 66 (by decide) dX0_canTake_52 (fun c70 => ?_) (fun c70 => ?_)
                rotate_left
                · exact absurd c70 (by decide)
                refine J_iload 6 rfl dX0_canTake_66 ?_
                refine J_if_eq 82 (by decide) dX0_canTake_68 (fun c71 => ?_) (fun c71 => ?_)
                · exact absurd c71 (by decide)
                refine J_aload_n 1 rfl dX0_canTake_71 ?_
                refine J_iload 4 rfl dX0_canTake_72 ?_
                refine cv_0_29 (cells' := 0) (slots' := 0) dX0_canTake_74 (c_X5_mayHave (by assumption)) (n20 (by assumption)) ⟨by decide, by decide⟩ rfl rfl (by decide) (by decide) (Nat.le_of_ble_eq_true rfl) (fun _ _ r72 => ?_) (fun _ _ h => h.elim)
                obtain ⟨rfl, rfl⟩ := r72
                refine J_eq (st' := [.int (kb (mayF I a 2))]) rfl rfl rfl ?_
                refine J_topv (v' := .int 1) (by first | rfl | (rw [may_2]; rfl)) ?_
                refine J_if_eq 82 (by decide) dX0_canTake_77 (fun c73 => ?_) (fun c73 => ?_)
                · exact absurd c73 (by decide)
                refine J_iconst (v := 1) (by decide) dX0_canTake_80 ?_
                refine J_istore_n (lv' := [(0, .ref (ka S 3 0)), (1, .ref a), (2, .int v), (3, .int 1), (4, .int 2), (5, .ref a52), (6, .int 1)]) (by decide) rfl dX0_canTake_81 ?_
                refine J_iinc (v := 3) (lv' := [(0, .ref (ka S 3 0)), (1, .ref a), (2, .int v), (3, .int 1), (4, .int 3), (5, .ref a52), (6, .int 1)]) 4 rfl (by decide) (by decide) rfl dX0_canTake_82 ?_
                refine J_goto 5 (by decide) dX0_canTake_85 ?_
                refine J_iload 4 rfl dX0_canTake_5 ?_
                refine J_aload_n 0 rfl dX0_canTake_7 ?_
                refine gf_0_11 (n3 _) dX0_canTake_8 ?_
                refine J_alen (v := 3) 5 (n14 _) rfl rfl rfl dX0_canTake_11 ?_
                refine J_icmp_ge 88 (by decide) dX0_canTake_12 (fun c75 => ?_) (fun c75 => ?_)
                rotate_left
                · exact absurd (by decide) c75
                refine J_iload_n 2 rfl dX0_canTake_88 ?_
                refine J_if_eq 100 (by decide) dX0_canTake_89 (fun c76 => ?_) (fun c76 => ?_)
                · skip
                  refine J_iconst (v := 0) (by decide) dX0_canTake_100 ?_
                  exact J_ireturn rfl (by first | rfl | assumption | simp [kb_nar]) dX0_canTake_101 (⟨by (try simp only [kb_0, kb_1, kb_n0, kb_n1, decide_eq_false_iff_not, decide_eq_true_eq, ne_eq, Classical.not_not] at *); first | (simp [kb, kb_0, kb_1, vr_n, vr_s, takF, may_1, may_2, havF_n, havF_s, shF_none, shF_some, *]; done) | (simp [kb, kb_0, kb_1, vr_n, vr_s, takF, may_1, may_2, havF_n, havF_s, shF_none, shF_some, *] <;> grind), rfl⟩) (by omega) (by omega)
                · skip
                  refine J_iload_n 3 rfl dX0_canTake_92 ?_
                  refine J_if_eq 100 (by decide) dX0_canTake_93 (fun c77 => ?_) (fun c77 => ?_)
                  · exact absurd c77 (by decide)
                  refine J_iconst (v := 1) (by decide) dX0_canTake_96 ?_
                  refine J_goto 101 (by decide) dX0_canTake_97 ?_
                  exact J_ireturn rfl (by first | rfl | assumption | simp [kb_nar]) dX0_canTake_101 (⟨by (try simp only [kb_0, kb_1, kb_n0, kb_n1, decide_eq_false_iff_not, decide_eq_true_eq, ne_eq, Classical.not_not] at *); first | (simp [kb, kb_0, kb_1, vr_n, vr_s, takF, may_1, may_2, havF_n, havF_s, shF_none, shF_some, *]; done) | (simp [kb, kb_0, kb_1, vr_n, vr_s, takF, may_1, may_2, havF_n, havF_s, shF_none, shF_some, *] <;> grind), rfl⟩) (by omega) (by omega)
          · skip
            refine J_iconst (v := 0) (by decide) dX0_canTake_64 ?_
            exact J_ireturn rfl (by first | rfl | assumption | simp [kb_nar]) dX0_canTake_65 (⟨by (try simp only [kb_0, kb_1, kb_n0, kb_n1, decide_eq_false_iff_not, decide_eq_true_eq, ne_eq, Classical.not_not] at *); first | (simp [kb, kb_0, kb_1, vr_n, vr_s, takF, may_1, may_2, havF_n, havF_s, shF_none, shF_some, *]; done) | (simp [kb, kb_0, kb_1, vr_n, vr_s, takF, may_1, may_2, havF_n, havF_s, shF_none, shF_some, *] <;> grind), rfl⟩) (by omega) (by omega)
        · skip
          refine J_iconst (v := 1) (by decide) dX0_canTake_38 ?_
          refine J_goto 43 (by decide) dX0_canTake_39 ?_
          refine J_istore (lv' := [(0, .ref (ka S 3 0)), (1, .ref a), (2, .int v), (3, .int 0), (4, .int 1), (5, .ref a10), (6, .int 1)]) (by decide) rfl dX0_canTake_43 ?_
          refine J_aload 5 rfl dX0_canTake_45 ?_
          refine J_ifnull dX0_canTake_47 ?_
          refine J_iload 6 rfl dX0_canTake_50 ?_
          refine J_if_ne 66 (by decide) dX0_canTake_52 (fun c78 => ?_) (fun c78 => ?_)
          rotate_left
          · exact absurd c78 (by decide)
          refine J_iload 6 rfl dX0_canTake_66 ?_
          refine J_if_eq 82 (by decide) dX0_canTake_68 (fun c79 => ?_) (fun c79 => ?_)
          · exact absurd c79 (by decide)
          refine J_aload_n 1 rfl dX0_canTake_71 ?_
          refine J_iload 4 rfl dX0_canTake_72 ?_
          refine cv_0_29 (cells' := 0) (slots' := 0) dX0_canTake_74 (c_X5_mayHave (by assumption)) (n20 (by assumption)) ⟨by decide, by decide⟩ rfl rfl (by decide) (by decide) (Nat.le_of_ble_eq_true rfl) (fun _ _ r80 => ?_) (fun _ _ h => h.elim)
          obtain ⟨rfl, rfl⟩ := r80
          refine J_eq (st' := [.int (kb (mayF I a 1))]) rfl rfl rfl ?_
          refine J_topv (v' := .int 1) (by first | rfl | (rw [may_1]; rfl)) ?_
          refine J_if_eq 82 (by decide) dX0_canTake_77 (fun c81 => ?_) (fun c81 => ?_)
          · exact absurd c81 (by decide)
          refine J_iconst (v := 1) (by decide) dX0_canTake_80 ?_
          refine J_istore_n (lv' := [(0, .ref (ka S 3 0)), (1, .ref a), (2, .int v), (3, .int 1), (4, .int 1), (5, .ref a10), (6, .int 1)]) (by decide) rfl dX0_canTake_81 ?_
          refine J_iinc (v := 2) (lv' := [(0, .ref (ka S 3 0)), (1, .ref a), (2, .int v), (3, .int 1), (4, .int 2), (5, .ref a10), (6, .int 1)]) 4 rfl (by decide) (by decide) rfl dX0_canTake_82 ?_
          refine J_goto 5 (by decide) dX0_canTake_85 ?_
          refine J_iload 4 rfl dX0_canTake_5 ?_
          refine J_aload_n 0 rfl dX0_canTake_7 ?_
          refine gf_0_11 (n3 _) dX0_canTake_8 ?_
          refine J_alen (v := 3) 5 (n14 _) rfl rfl rfl dX0_canTake_11 ?_
          refine J_icmp_ge 88 (by decide) dX0_canTake_12 (fun c83 => ?_) (fun c83 => ?_)
          · exact absurd c83 (by decide)
          refine J_aload_n 0 rfl dX0_canTake_15 ?_
          refine gf_0_11 (n3 _) dX0_canTake_16 ?_
          refine J_iload 4 rfl dX0_canTake_19 ?_
          refine J_aald 2 5 (n14 _) rfl rfl (vp_in_iff.mpr (by decide)) (by decide) dX0_canTake_21 ?_
          rcases opt_split (R 14 0 2) with o84 | ⟨a85, o84⟩
          · skip
            refine J_topv (v' := .null) (by first | rfl | (rw [o84]; rfl)) ?_
            refine J_astoreN (lv' := [(0, .ref (ka S 3 0)), (1, .ref a), (2, .int v), (3, .int 1), (4, .int 2), (5, .null), (6, .int 1)]) (by decide) rfl dX0_canTake_22 ?_
            refine J_aloadN 5 rfl dX0_canTake_24 ?_
            refine J_ifnullN 38 (by decide) dX0_canTake_26 ?_
            refine J_iconst (v := 1) (by decide) dX0_canTake_38 ?_
            refine J_goto 43 (by decide) dX0_canTake_39 ?_
            refine J_istore (lv' := [(0, .ref (ka S 3 0)), (1, .ref a), (2, .int v), (3, .int 1), (4, .int 2), (5, .null), (6, .int 1)]) (by decide) rfl dX0_canTake_43 ?_
            refine J_aloadN 5 rfl dX0_canTake_45 ?_
            refine J_ifnullN 66 (by decide) dX0_canTake_47 ?_
            refine J_iload 6 rfl dX0_canTake_66 ?_
            refine J_if_eq 82 (by decide) dX0_canTake_68 (fun c86 => ?_) (fun c86 => ?_)
            · exact absurd c86 (by decide)
            refine J_aload_n 1 rfl dX0_canTake_71 ?_
            refine J_iload 4 rfl dX0_canTake_72 ?_
            refine cv_0_29 (cells' := 0) (slots' := 0) dX0_canTake_74 (c_X5_mayHave (by assumption)) (n20 (by assumption)) ⟨by decide, by decide⟩ rfl rfl (by decide) (by decide) (Nat.le_of_ble_eq_true rfl) (fun _ _ r87 => ?_) (fun _ _ h => h.elim)
            obtain ⟨rfl, rfl⟩ := r87
            refine J_eq (st' := [.int (kb (mayF I a 2))]) rfl rfl rfl ?_
            refine J_topv (v' := .int 1) (by first | rfl | (rw [may_2]; rfl)) ?_
            refine J_if_eq 82 (by decide) dX0_canTake_77 (fun c88 => ?_) (fun c88 => ?_)
            · exact absurd c88 (by decide)
            refine J_iconst (v := 1) (by decide) dX0_canTake_80 ?_
            refine J_istore_n (lv' := [(0, .ref (ka S 3 0)), (1, .ref a), (2, .int v), (3, .int 1), (4, .int 2), (5, .null), (6, .int 1)]) (by decide) rfl dX0_canTake_81 ?_
            refine J_iinc (v := 3) (lv' := [(0, .ref (ka S 3 0)), (1, .ref a), (2, .int v), (3, .int 1), (4, .int 3), (5, .null), (6, .int 1)]) 4 rfl (by decide) (by decide) rfl dX0_canTake_82 ?_
            refine J_goto 5 (by decide) dX0_canTake_85 ?_
            refine J_iload 4 rfl dX0_canTake_5 ?_
            refine J_aload_n 0 rfl dX0_canTake_7 ?_
            refine gf_0_11 (n3 _) dX0_canTake_8 ?_
            refine J_alen (v := 3) 5 (n14 _) rfl rfl rfl dX0_canTake_11 ?_
            refine J_icmp_ge 88 (by decide) dX0_canTake_12 (fun c90 => ?_) (fun c90 => ?_)
            rotate_left
            · exact absurd (by decide) c90
            refine J_iload_n 2 rfl dX0_canTake_88 ?_
            refine J_if_eq 100 (by decide) dX0_canTake_89 (fun c91 => ?_) (fun c91 => ?_)
            · skip
              refine J_iconst (v := 0) (by decide) dX0_canTake_100 ?_
              exact J_ireturn rfl (by first | rfl | assumption | simp [kb_nar]) dX0_canTake_101 (⟨by (try simp only [kb_0, kb_1, kb_n0, kb_n1, decide_eq_false_iff_not, decide_eq_true_eq, ne_eq, Classical.not_not] at *); first | (simp [kb, kb_0, kb_1, vr_n, vr_s, takF, may_1, may_2, havF_n, havF_s, shF_none, shF_some, *]; done) | (simp [kb, kb_0, kb_1, vr_n, vr_s, takF, may_1, may_2, havF_n, havF_s, shF_none, shF_some, *] <;> grind), rfl⟩) (by omega) (by omega)
            · skip
              refine J_iload_n 3 rfl dX0_canTake_92 ?_
              refine J_if_eq 100 (by decide) dX0_canTake_93 (fun c92 => ?_) (fun c92 => ?_)
              · exact absurd c92 (by decide)
              refine J_iconst (v := 1) (by decide) dX0_canTake_96 ?_
              refine J_goto 101 (by decide) dX0_canTake_97 ?_
              exact J_ireturn rfl (by first | rfl | assumption | simp [kb_nar]) dX0_canTake_101 (⟨by (try simp only [kb_0, kb_1, kb_n0, kb_n1, decide_eq_false_iff_not, decide_eq_true_eq, ne_eq, Classical.not_not] at *); first | (simp [kb, kb_0, kb_1, vr_n, vr_s, takF, may_1, may_2, havF_n, havF_s, shF_none, shF_some, *]; done) | (simp [kb, kb_0, kb_1, vr_n, vr_s, takF, may_1, may_2, havF_n, havF_s, shF_none, shF_some, *] <;> grind), rfl⟩) (by omega) (by omega)
          · skip
            have ma85 : a85 ∈ LP := hsp _ _ (by decide) o84
            refine J_topv (v' := .ref a85) (by first | rfl | (rw [o84]; rfl)) ?_
            refine J_astore (lv' := [(0, .ref (ka S 3 0)), (1, .ref a), (2, .int v), (3, .int 1), (4, .int 2), (5, .ref a85), (6, .int 1)]) (by decide) rfl dX0_canTake_22 ?_
            refine J_aload 5 rfl dX0_canTake_24 ?_
            refine J_ifnull dX0_canTake_26 ?_
            refine J_aload_n 1 rfl dX0_canTake_29 ?_
            refine J_aload 5 rfl dX0_canTake_30 ?_
            refine cv_0_25 (cells' := 0) (slots' := 0) dX0_canTake_32 (c_X5_canBreakInOn (by assumption) (by assumption)) (n20 (by assumption)) ⟨by decide, by decide⟩ rfl rfl (by decide) (by decide) (Nat.le_of_ble_eq_true rfl) (fun _ _ r93 => ?_) (fun _ _ h => h.elim)
            obtain ⟨rfl, rfl⟩ := r93
            refine J_eq (st' := [.int (kb (brkF I a a85))]) rfl rfl rfl ?_
            refine J_if_eq 42 (by decide) dX0_canTake_35 (fun c94 => ?_) (fun c94 => ?_)
            · skip
              refine J_iconst (v := 0) (by decide) dX0_canTake_42 ?_
              refine J_istore (lv' := [(0, .ref (ka S 3 0)), (1, .ref a), (2, .int v), (3, .int 1), (4, .int 2), (5, .ref a85), (6, .int 0)]) (by decide) rfl dX0_canTake_43 ?_
              refine J_aload 5 rfl dX0_canTake_45 ?_
              refine J_ifnull dX0_canTake_47 ?_
              refine J_iload 6 rfl dX0_canTake_50 ?_
              refine J_if_ne 66 (by decide) dX0_canTake_52 (fun c95 => ?_) (fun c95 => ?_)
              · exact absurd (by decide) c95
              refine J_aload 5 rfl dX0_canTake_55 ?_
              refine J_iload_n 2 rfl dX0_canTake_57 ?_
              refine cv_0_21 (cells' := 0) (slots' := 0) dX0_canTake_58 (c_X5_sharesStationWith (by assumption)) (n20 (by assumption)) ⟨by decide, by decide⟩ rfl rfl (by decide) (by decide) (Nat.le_of_ble_eq_true rfl) (fun _ _ r96 => ?_) (fun _ _ h => h.elim)
              obtain ⟨rfl, rfl⟩ := r96
              refine J_eq (st' := [.int (kb (shrF I a85 v))]) rfl rfl rfl ?_
              refine J_if_eq 66 (by decide) dX0_canTake_61 (fun c97 => ?_) (fun c97 => ?_)
              · skip
                refine J_iload 6 rfl dX0_canTake_66 ?_
                refine J_if_eq 82 (by decide) dX0_canTake_68 (fun c98 => ?_) (fun c98 => ?_)
                rotate_left
                · exact absurd (by decide) c98
                refine J_iinc (v := 3) (lv' := [(0, .ref (ka S 3 0)), (1, .ref a), (2, .int v), (3, .int 1), (4, .int 3), (5, .ref a85), (6, .int 0)]) 4 rfl (by decide) (by decide) rfl dX0_canTake_82 ?_
                refine J_goto 5 (by decide) dX0_canTake_85 ?_
                refine J_iload 4 rfl dX0_canTake_5 ?_
                refine J_aload_n 0 rfl dX0_canTake_7 ?_
                refine gf_0_11 (n3 _) dX0_canTake_8 ?_
                refine J_alen (v := 3) 5 (n14 _) rfl rfl rfl dX0_canTake_11 ?_
                refine J_icmp_ge 88 (by decide) dX0_canTake_12 (fun c100 => ?_) (fun c100 => ?_)
                rotate_left
                · exact absurd (by decide) c100
                refine J_iload_n 2 rfl dX0_canTake_88 ?_
                refine J_if_eq 100 (by decide) dX0_canTake_89 (fun c101 => ?_) (fun c101 => ?_)
                · skip
                  refine J_iconst (v := 0) (by decide) dX0_canTake_100 ?_
                  exact J_ireturn rfl (by first | rfl | assumption | simp [kb_nar]) dX0_canTake_101 (⟨by (try simp only [kb_0, kb_1, kb_n0, kb_n1, decide_eq_false_iff_not, decide_eq_true_eq, ne_eq, Classical.not_not] at *); first | (simp [kb, kb_0, kb_1, vr_n, vr_s, takF, may_1, may_2, havF_n, havF_s, shF_none, shF_some, *]; done) | (simp [kb, kb_0, kb_1, vr_n, vr_s, takF, may_1, may_2, havF_n, havF_s, shF_none, shF_some, *] <;> grind), rfl⟩) (by omega) (by omega)
                · skip
                  refine J_iload_n 3 rfl dX0_canTake_92 ?_
                  refine J_if_eq 100 (by decide) dX0_canTake_93 (fun c102 => ?_) (fun c102 => ?_)
                  · exact absurd c102 (by decide)
                  refine J_iconst (v := 1) (by decide) dX0_canTake_96 ?_
                  refine J_goto 101 (by decide) dX0_canTake_97 ?_
                  exact J_ireturn rfl (by first | rfl | assumption | simp [kb_nar]) dX0_canTake_101 (⟨by (try simp only [kb_0, kb_1, kb_n0, kb_n1, decide_eq_false_iff_not, decide_eq_true_eq, ne_eq, Classical.not_not] at *); first | (simp [kb, kb_0, kb_1, vr_n, vr_s, takF, may_1, may_2, havF_n, havF_s, shF_none, shF_some, *]; done) | (simp [kb, kb_0, kb_1, vr_n, vr_s, takF, may_1, may_2, havF_n, havF_s, shF_none, shF_some, *] <;> grind), rfl⟩) (by omega) (by omega)
              · skip
                refine J_iconst (v := 0) (by decide) dX0_canTake_64 ?_
                exact J_ireturn rfl (by first | rfl | assumption | simp [kb_nar]) dX0_canTake_65 (⟨by (try simp only [kb_0, kb_1, kb_n0, kb_n1, decide_eq_false_iff_not, decide_eq_true_eq, ne_eq, Classical.not_not] at *); first | (simp [kb, kb_0, kb_1, vr_n, vr_s, takF, may_1, may_2, havF_n, havF_s, shF_none, shF_some, *]; done) | (simp [kb, kb_0, kb_1, vr_n, vr_s, takF, may_1, may_2, havF_n, havF_s, shF_none, shF_some, *] <;> grind), rfl⟩) (by omega) (by omega)
            · skip
              refine J_iconst (v := 1) (by decide) dX0_canTake_38 ?_
              refine J_goto 43 (by decide) dX0_canTake_39 ?_
              refine J_istore (lv' := [(0, .ref (ka S 3 0)), (1, .ref a), (2, .int v), (3, .int 1), (4, .int 2), (5, .ref a85), (6, .int 1)]) (by decide) rfl dX0_canTake_43 ?_
              refine J_aload 5 rfl dX0_canTake_45 ?_
              refine J_ifnull dX0_canTake_47 ?_
              refine J_iload 6 rfl dX0_canTake_50 ?_
              refine J_if_ne 66 (by decide) dX0_canTake_52 (fun c103 => ?_) (fun c103 => ?_)
              rotate_left
              · exact absurd c103 (by decide)
              refine J_iload 6 rfl dX0_canTake_66 ?_
              refine J_if_eq 82 (by decide) dX0_canTake_68 (fun c104 => ?_) (fun c104 => ?_)
              · exact absurd c104 (by decide)
              refine J_aload_n 1 rfl dX0_canTake_71 ?_
              refine J_iload 4 rfl dX0_canTake_72 ?_
              refine cv_0_29 (cells' := 0) (slots' := 0) dX0_canTake_74 (c_X5_mayHave (by assumption)) (n20 (by assumption)) ⟨by decide, by decide⟩ rfl rfl (by decide) (by decide) (Nat.le_of_ble_eq_true rfl) (fun _ _ r105 => ?_) (fun _ _ h => h.elim)
              obtain ⟨rfl, rfl⟩ := r105
              refine J_eq (st' := [.int (kb (mayF I a 2))]) rfl rfl rfl ?_
              refine J_topv (v' := .int 1) (by first | rfl | (rw [may_2]; rfl)) ?_
              refine J_if_eq 82 (by decide) dX0_canTake_77 (fun c106 => ?_) (fun c106 => ?_)
              · exact absurd c106 (by decide)
              refine J_iconst (v := 1) (by decide) dX0_canTake_80 ?_
              refine J_istore_n (lv' := [(0, .ref (ka S 3 0)), (1, .ref a), (2, .int v), (3, .int 1), (4, .int 2), (5, .ref a85), (6, .int 1)]) (by decide) rfl dX0_canTake_81 ?_
              refine J_iinc (v := 3) (lv' := [(0, .ref (ka S 3 0)), (1, .ref a), (2, .int v), (3, .int 1), (4, .int 3), (5, .ref a85), (6, .int 1)]) 4 rfl (by decide) (by decide) rfl dX0_canTake_82 ?_
              refine J_goto 5 (by decide) dX0_canTake_85 ?_
              refine J_iload 4 rfl dX0_canTake_5 ?_
              refine J_aload_n 0 rfl dX0_canTake_7 ?_
              refine gf_0_11 (n3 _) dX0_canTake_8 ?_
              refine J_alen (v := 3) 5 (n14 _) rfl rfl rfl dX0_canTake_11 ?_
              refine J_icmp_ge 88 (by decide) dX0_canTake_12 (fun c108 => ?_) (fun c108 => ?_)
              rotate_left
              · exact absurd (by decide) c108
              refine J_iload_n 2 rfl dX0_canTake_88 ?_
              refine J_if_eq 100 (by decide) dX0_canTake_89 (fun c109 => ?_) (fun c109 => ?_)
              · skip
                refine J_iconst (v := 0) (by decide) dX0_canTake_100 ?_
                exact J_ireturn rfl (by first | rfl | assumption | simp [kb_nar]) dX0_canTake_101 (⟨by (try simp only [kb_0, kb_1, kb_n0, kb_n1, decide_eq_false_iff_not, decide_eq_true_eq, ne_eq, Classical.not_not] at *); first | (simp [kb, kb_0, kb_1, vr_n, vr_s, takF, may_1, may_2, havF_n, havF_s, shF_none, shF_some, *]; done) | (simp [kb, kb_0, kb_1, vr_n, vr_s, takF, may_1, may_2, havF_n, havF_s, shF_none, shF_some, *] <;> grind), rfl⟩) (by omega) (by omega)
              · skip
                refine J_iload_n 3 rfl dX0_canTake_92 ?_
                refine J_if_eq 100 (by decide) dX0_canTake_93 (fun c110 => ?_) (fun c110 => ?_)
                · exact absurd c110 (by decide)
                refine J_iconst (v := 1) (by decide) dX0_canTake_96 ?_
                refine J_goto 101 (by decide) dX0_canTake_97 ?_
                exact J_ireturn rfl (by first | rfl | assumption | simp [kb_nar]) dX0_canTake_101 (⟨by (try simp only [kb_0, kb_1, kb_n0, kb_n1, decide_eq_false_iff_not, decide_eq_true_eq, ne_eq, Classical.not_not] at *); first | (simp [kb, kb_0, kb_1, vr_n, vr_s, takF, may_1, may_2, havF_n, havF_s, shF_none, shF_some, *]; done) | (simp [kb, kb_0, kb_1, vr_n, vr_s, takF, may_1, may_2, havF_n, havF_s, shF_none, shF_some, *] <;> grind), rfl⟩) (by omega) (by omega)
    · skip
      refine J_iconst (v := 1) (by decide) dX0_canTake_80 ?_
      refine J_istore_n (lv' := [(0, .ref (ka S 3 0)), (1, .ref a), (2, .int v), (3, .int 1), (4, .int 0), (5, .null), (6, .int 1)]) (by decide) rfl dX0_canTake_81 ?_
      refine J_iinc (v := 1) (lv' := [(0, .ref (ka S 3 0)), (1, .ref a), (2, .int v), (3, .int 1), (4, .int 1), (5, .null), (6, .int 1)]) 4 rfl (by decide) (by decide) rfl dX0_canTake_82 ?_
      refine J_goto 5 (by decide) dX0_canTake_85 ?_
      refine J_iload 4 rfl dX0_canTake_5 ?_
      refine J_aload_n 0 rfl dX0_canTake_7 ?_
      refine gf_0_11 (n3 _) dX0_canTake_8 ?_
      refine J_alen (v := 3) 5 (n14 _) rfl rfl rfl dX0_canTake_11 ?_
      refine J_icmp_ge 88 (by decide) dX0_canTake_12 (fun c112 => ?_) (fun c112 => ?_)
      · exact absurd c112 (by decide)
      refine J_aload_n 0 rfl dX0_canTake_15 ?_
      refine gf_0_11 (n3 _) dX0_canTake_16 ?_
      refine J_iload 4 rfl dX0_canTake_19 ?_
      refine J_aald 1 5 (n14 _) rfl rfl (vp_in_iff.mpr (by decide)) (by decide) dX0_canTake_21 ?_
      rcases opt_split (R 14 0 1) with o113 | ⟨a114, o113⟩
      · skip
        refine J_topv (v' := .null) (by first | rfl | (rw [o113]; rfl)) ?_
        refine J_astoreN (lv' := [(0, .ref (ka S 3 0)), (1, .ref a), (2, .int v), (3, .int 1), (4, .int 1), (5, .null), (6, .int 1)]) (by decide) rfl dX0_canTake_22 ?_
        refine J_aloadN 5 rfl dX0_canTake_24 ?_
        refine J_ifnullN 38 (by decide) dX0_canTake_26 ?_
        refine J_iconst (v := 1) (by decide) dX0_canTake_38 ?_
        refine J_goto 43 (by decide) dX0_canTake_39 ?_
        refine J_istore (lv' := [(0, .ref (ka S 3 0)), (1, .ref a), (2, .int v), (3, .int 1), (4, .int 1), (5, .null), (6, .int 1)]) (by decide) rfl dX0_canTake_43 ?_
        refine J_aloadN 5 rfl dX0_canTake_45 ?_
        refine J_ifnullN 66 (by decide) dX0_canTake_47 ?_
        refine J_iload 6 rfl dX0_canTake_66 ?_
        refine J_if_eq 82 (by decide) dX0_canTake_68 (fun c115 => ?_) (fun c115 => ?_)
        · exact absurd c115 (by decide)
        refine J_aload_n 1 rfl dX0_canTake_71 ?_
        refine J_iload 4 rfl dX0_canTake_72 ?_
        refine cv_0_29 (cells' := 0) (slots' := 0) dX0_canTake_74 (c_X5_mayHave (by assumption)) (n20 (by assumption)) ⟨by decide, by decide⟩ rfl rfl (by decide) (by decide) (Nat.le_of_ble_eq_true rfl) (fun _ _ r116 => ?_) (fun _ _ h => h.elim)
        obtain ⟨rfl, rfl⟩ := r116
        refine J_eq (st' := [.int (kb (mayF I a 1))]) rfl rfl rfl ?_
        refine J_topv (v' := .int 1) (by first | rfl | (rw [may_1]; rfl)) ?_
        refine J_if_eq 82 (by decide) dX0_canTake_77 (fun c117 => ?_) (fun c117 => ?_)
        · exact absurd c117 (by decide)
        refine J_iconst (v := 1) (by decide) dX0_canTake_80 ?_
        refine J_istore_n (lv' := [(0, .ref (ka S 3 0)), (1, .ref a), (2, .int v), (3, .int 1), (4, .int 1), (5, .null), (6, .int 1)]) (by decide) rfl dX0_canTake_81 ?_
        refine J_iinc (v := 2) (lv' := [(0, .ref (ka S 3 0)), (1, .ref a), (2, .int v), (3, .int 1), (4, .int 2), (5, .null), (6, .int 1)]) 4 rfl (by decide) (by decide) rfl dX0_canTake_82 ?_
        refine J_goto 5 (by decide) dX0_canTake_85 ?_
        refine J_iload 4 rfl dX0_canTake_5 ?_
        refine J_aload_n 0 rfl dX0_canTake_7 ?_
        refine gf_0_11 (n3 _) dX0_canTake_8 ?_
        refine J_alen (v := 3) 5 (n14 _) rfl rfl rfl dX0_canTake_11 ?_
        refine J_icmp_ge 88 (by decide) dX0_canTake_12 (fun c119 => ?_) (fun c119 => ?_)
        · exact absurd c119 (by decide)
        refine J_aload_n 0 rfl dX0_canTake_15 ?_
        refine gf_0_11 (n3 _) dX0_canTake_16 ?_
        refine J_iload 4 rfl dX0_canTake_19 ?_
        refine J_aald 2 5 (n14 _) rfl rfl (vp_in_iff.mpr (by decide)) (by decide) dX0_canTake_21 ?_
        rcases opt_split (R 14 0 2) with o120 | ⟨a121, o120⟩
        · skip
          refine J_topv (v' := .null) (by first | rfl | (rw [o120]; rfl)) ?_
          refine J_astoreN (lv' := [(0, .ref (ka S 3 0)), (1, .ref a), (2, .int v), (3, .int 1), (4, .int 2), (5, .null), (6, .int 1)]) (by decide) rfl dX0_canTake_22 ?_
          refine J_aloadN 5 rfl dX0_canTake_24 ?_
          refine J_ifnullN 38 (by decide) dX0_canTake_26 ?_
          refine J_iconst (v := 1) (by decide) dX0_canTake_38 ?_
          refine J_goto 43 (by decide) dX0_canTake_39 ?_
          refine J_istore (lv' := [(0, .ref (ka S 3 0)), (1, .ref a), (2, .int v), (3, .int 1), (4, .int 2), (5, .null), (6, .int 1)]) (by decide) rfl dX0_canTake_43 ?_
          refine J_aloadN 5 rfl dX0_canTake_45 ?_
          refine J_ifnullN 66 (by decide) dX0_canTake_47 ?_
          refine J_iload 6 rfl dX0_canTake_66 ?_
          refine J_if_eq 82 (by decide) dX0_canTake_68 (fun c122 => ?_) (fun c122 => ?_)
          · exact absurd c122 (by decide)
          refine J_aload_n 1 rfl dX0_canTake_71 ?_
          refine J_iload 4 rfl dX0_canTake_72 ?_
          refine cv_0_29 (cells' := 0) (slots' := 0) dX0_canTake_74 (c_X5_mayHave (by assumption)) (n20 (by assumption)) ⟨by decide, by decide⟩ rfl rfl (by decide) (by decide) (Nat.le_of_ble_eq_true rfl) (fun _ _ r123 => ?_) (fun _ _ h => h.elim)
          obtain ⟨rfl, rfl⟩ := r123
          refine J_eq (st' := [.int (kb (mayF I a 2))]) rfl rfl rfl ?_
          refine J_topv (v' := .int 1) (by first | rfl | (rw [may_2]; rfl)) ?_
          refine J_if_eq 82 (by decide) dX0_canTake_77 (fun c124 => ?_) (fun c124 => ?_)
          · exact absurd c124 (by decide)
          refine J_iconst (v := 1) (by decide) dX0_canTake_80 ?_
          refine J_istore_n (lv' := [(0, .ref (ka S 3 0)), (1, .ref a), (2, .int v), (3, .int 1), (4, .int 2), (5, .null), (6, .int 1)]) (by decide) rfl dX0_canTake_81 ?_
          refine J_iinc (v := 3) (lv' := [(0, .ref (ka S 3 0)), (1, .ref a), (2, .int v), (3, .int 1), (4, .int 3), (5, .null), (6, .int 1)]) 4 rfl (by decide) (by decide) rfl dX0_canTake_82 ?_
          refine J_goto 5 (by decide) dX0_canTake_85 ?_
          refine J_iload 4 rfl dX0_canTake_5 ?_
          refine J_aload_n 0 rfl dX0_canTake_7 ?_
          refine gf_0_11 (n3 _) dX0_canTake_8 ?_
          refine J_alen (v := 3) 5 (n14 _) rfl rfl rfl dX0_canTake_11 ?_
          refine J_icmp_ge 88 (by decide) dX0_canTake_12 (fun c126 => ?_) (fun c126 => ?_)
          rotate_left
          · exact absurd (by decide) c126
          refine J_iload_n 2 rfl dX0_canTake_88 ?_
          refine J_if_eq 100 (by decide) dX0_canTake_89 (fun c127 => ?_) (fun c127 => ?_)
          · skip
            refine J_iconst (v := 0) (by decide) dX0_canTake_100 ?_
            exact J_ireturn rfl (by first | rfl | assumption | simp [kb_nar]) dX0_canTake_101 (⟨by (try simp only [kb_0, kb_1, kb_n0, kb_n1, decide_eq_false_iff_not, decide_eq_true_eq, ne_eq, Classical.not_not] at *); first | (simp [kb, kb_0, kb_1, vr_n, vr_s, takF, may_1, may_2, havF_n, havF_s, shF_none, shF_some, *]; done) | (simp [kb, kb_0, kb_1, vr_n, vr_s, takF, may_1, may_2, havF_n, havF_s, shF_none, shF_some, *] <;> grind), rfl⟩) (by omega) (by omega)
          · skip
            refine J_iload_n 3 rfl dX0_canTake_92 ?_
            refine J_if_eq 100 (by decide) dX0_canTake_93 (fun c128 => ?_) (fun c128 => ?_)
            · exact absurd c128 (by decide)
            refine J_iconst (v := 1) (by decide) dX0_canTake_96 ?_
            refine J_goto 101 (by decide) dX0_canTake_97 ?_
            exact J_ireturn rfl (by first | rfl | assumption | simp [kb_nar]) dX0_canTake_101 (⟨by (try simp only [kb_0, kb_1, kb_n0, kb_n1, decide_eq_false_iff_not, decide_eq_true_eq, ne_eq, Classical.not_not] at *); first | (simp [kb, kb_0, kb_1, vr_n, vr_s, takF, may_1, may_2, havF_n, havF_s, shF_none, shF_some, *]; done) | (simp [kb, kb_0, kb_1, vr_n, vr_s, takF, may_1, may_2, havF_n, havF_s, shF_none, shF_some, *] <;> grind), rfl⟩) (by omega) (by omega)
        · skip
          have ma121 : a121 ∈ LP := hsp _ _ (by decide) o120
          refine J_topv (v' := .ref a121) (by first | rfl | (rw [o120]; rfl)) ?_
          refine J_astore (lv' := [(0, .ref (ka S 3 0)), (1, .ref a), (2, .int v), (3, .int 1), (4, .int 2), (5, .ref a121), (6, .int 1)]) (by decide) rfl dX0_canTake_22 ?_
          refine J_aload 5 rfl dX0_canTake_24 ?_
          refine J_ifnull dX0_canTake_26 ?_
          refine J_aload_n 1 rfl dX0_canTake_29 ?_
          refine J_aload 5 rfl dX0_canTake_30 ?_
          refine cv_0_25 (cells' := 0) (slots' := 0) dX0_canTake_32 (c_X5_canBreakInOn (by assumption) (by assumption)) (n20 (by assumption)) ⟨by decide, by decide⟩ rfl rfl (by decide) (by decide) (Nat.le_of_ble_eq_true rfl) (fun _ _ r129 => ?_) (fun _ _ h => h.elim)
          obtain ⟨rfl, rfl⟩ := r129
          refine J_eq (st' := [.int (kb (brkF I a a121))]) rfl rfl rfl ?_
          refine J_if_eq 42 (by decide) dX0_canTake_35 (fun c130 => ?_) (fun c130 => ?_)
          · skip
            refine J_iconst (v := 0) (by decide) dX0_canTake_42 ?_
            refine J_istore (lv' := [(0, .ref (ka S 3 0)), (1, .ref a), (2, .int v), (3, .int 1), (4, .int 2), (5, .ref a121), (6, .int 0)]) (by decide) rfl dX0_canTake_43 ?_
            refine J_aload 5 rfl dX0_canTake_45 ?_
            refine J_ifnull dX0_canTake_47 ?_
            refine J_iload 6 rfl dX0_canTake_50 ?_
            refine J_if_ne 66 (by decide) dX0_canTake_52 (fun c131 => ?_) (fun c131 => ?_)
            · exact absurd (by decide) c131
            refine J_aload 5 rfl dX0_canTake_55 ?_
            refine J_iload_n 2 rfl dX0_canTake_57 ?_
            refine cv_0_21 (cells' := 0) (slots' := 0) dX0_canTake_58 (c_X5_sharesStationWith (by assumption)) (n20 (by assumption)) ⟨by decide, by decide⟩ rfl rfl (by decide) (by decide) (Nat.le_of_ble_eq_true rfl) (fun _ _ r132 => ?_) (fun _ _ h => h.elim)
            obtain ⟨rfl, rfl⟩ := r132
            refine J_eq (st' := [.int (kb (shrF I a121 v))]) rfl rfl rfl ?_
            refine J_if_eq 66 (by decide) dX0_canTake_61 (fun c133 => ?_) (fun c133 => ?_)
            · skip
              refine J_iload 6 rfl dX0_canTake_66 ?_
              refine J_if_eq 82 (by decide) dX0_canTake_68 (fun c134 => ?_) (fun c134 => ?_)
              rotate_left
              · exact absurd (by decide) c134
              refine J_iinc (v := 3) (lv' := [(0, .ref (ka S 3 0)), (1, .ref a), (2, .int v), (3, .int 1), (4, .int 3), (5, .ref a121), (6, .int 0)]) 4 rfl (by decide) (by decide) rfl dX0_canTake_82 ?_
              refine J_goto 5 (by decide) dX0_canTake_85 ?_
              refine J_iload 4 rfl dX0_canTake_5 ?_
              refine J_aload_n 0 rfl dX0_canTake_7 ?_
              refine gf_0_11 (n3 _) dX0_canTake_8 ?_
              refine J_alen (v := 3) 5 (n14 _) rfl rfl rfl dX0_canTake_11 ?_
              refine J_icmp_ge 88 (by decide) dX0_canTake_12 (fun c136 => ?_) (fun c136 => ?_)
              rotate_left
              · exact absurd (by decide) c136
              refine J_iload_n 2 rfl dX0_canTake_88 ?_
              refine J_if_eq 100 (by decide) dX0_canTake_89 (fun c137 => ?_) (fun c137 => ?_)
              · skip
                refine J_iconst (v := 0) (by decide) dX0_canTake_100 ?_
                exact J_ireturn rfl (by first | rfl | assumption | simp [kb_nar]) dX0_canTake_101 (⟨by (try simp only [kb_0, kb_1, kb_n0, kb_n1, decide_eq_false_iff_not, decide_eq_true_eq, ne_eq, Classical.not_not] at *); first | (simp [kb, kb_0, kb_1, vr_n, vr_s, takF, may_1, may_2, havF_n, havF_s, shF_none, shF_some, *]; done) | (simp [kb, kb_0, kb_1, vr_n, vr_s, takF, may_1, may_2, havF_n, havF_s, shF_none, shF_some, *] <;> grind), rfl⟩) (by omega) (by omega)
              · skip
                refine J_iload_n 3 rfl dX0_canTake_92 ?_
                refine J_if_eq 100 (by decide) dX0_canTake_93 (fun c138 => ?_) (fun c138 => ?_)
                · exact absurd c138 (by decide)
                refine J_iconst (v := 1) (by decide) dX0_canTake_96 ?_
                refine J_goto 101 (by decide) dX0_canTake_97 ?_
                exact J_ireturn rfl (by first | rfl | assumption | simp [kb_nar]) dX0_canTake_101 (⟨by (try simp only [kb_0, kb_1, kb_n0, kb_n1, decide_eq_false_iff_not, decide_eq_true_eq, ne_eq, Classical.not_not] at *); first | (simp [kb, kb_0, kb_1, vr_n, vr_s, takF, may_1, may_2, havF_n, havF_s, shF_none, shF_some, *]; done) | (simp [kb, kb_0, kb_1, vr_n, vr_s, takF, may_1, may_2, havF_n, havF_s, shF_none, shF_some, *] <;> grind), rfl⟩) (by omega) (by omega)
            · skip
              refine J_iconst (v := 0) (by decide) dX0_canTake_64 ?_
              exact J_ireturn rfl (by first | rfl | assumption | simp [kb_nar]) dX0_canTake_65 (⟨by (try simp only [kb_0, kb_1, kb_n0, kb_n1, decide_eq_false_iff_not, decide_eq_true_eq, ne_eq, Classical.not_not] at *); first | (simp [kb, kb_0, kb_1, vr_n, vr_s, takF, may_1, may_2, havF_n, havF_s, shF_none, shF_some, *]; done) | (simp [kb, kb_0, kb_1, vr_n, vr_s, takF, may_1, may_2, havF_n, havF_s, shF_none, shF_some, *] <;> grind), rfl⟩) (by omega) (by omega)
          · skip
            refine J_iconst (v := 1) (by decide) dX0_canTake_38 ?_
            refine J_goto 43 (by decide) dX0_canTake_39 ?_
            refine J_istore (lv' := [(0, .ref (ka S 3 0)), (1, .ref a), (2, .int v), (3, .int 1), (4, .int 2), (5, .ref a121), (6, .int 1)]) (by decide) rfl dX0_canTake_43 ?_
            refine J_aload 5 rfl dX0_canTake_45 ?_
            refine J_ifnull dX0_canTake_47 ?_
            refine J_iload 6 rfl dX0_canTake_50 ?_
            refine J_if_ne 66 (by decide) dX0_canTake_52 (fun c139 => ?_) (fun c139 => ?_)
            rotate_left
            · exact absurd c139 (by decide)
            refine J_iload 6 rfl dX0_canTake_66 ?_
            refine J_if_eq 82 (by decide) dX0_canTake_68 (fun c140 => ?_) (fun c140 => ?_)
            · exact absurd c140 (by decide)
            refine J_aload_n 1 rfl dX0_canTake_71 ?_
            refine J_iload 4 rfl dX0_canTake_72 ?_
            refine cv_0_29 (cells' := 0) (slots' := 0) dX0_canTake_74 (c_X5_mayHave (by assumption)) (n20 (by assumption)) ⟨by decide, by decide⟩ rfl rfl (by decide) (by decide) (Nat.le_of_ble_eq_true rfl) (fun _ _ r141 => ?_) (fun _ _ h => h.elim)
            obtain ⟨rfl, rfl⟩ := r141
            refine J_eq (st' := [.int (kb (mayF I a 2))]) rfl rfl rfl ?_
            refine J_topv (v' := .int 1) (by first | rfl | (rw [may_2]; rfl)) ?_
            refine J_if_eq 82 (by decide) dX0_canTake_77 (fun c142 => ?_) (fun c142 => ?_)
            · exact absurd c142 (by decide)
            refine J_iconst (v := 1) (by decide) dX0_canTake_80 ?_
            refine J_istore_n (lv' := [(0, .ref (ka S 3 0)), (1, .ref a), (2, .int v), (3, .int 1), (4, .int 2), (5, .ref a121), (6, .int 1)]) (by decide) rfl dX0_canTake_81 ?_
            refine J_iinc (v := 3) (lv' := [(0, .ref (ka S 3 0)), (1, .ref a), (2, .int v), (3, .int 1), (4, .int 3), (5, .ref a121), (6, .int 1)]) 4 rfl (by decide) (by decide) rfl dX0_canTake_82 ?_
            refine J_goto 5 (by decide) dX0_canTake_85 ?_
            refine J_iload 4 rfl dX0_canTake_5 ?_
            refine J_aload_n 0 rfl dX0_canTake_7 ?_
            refine gf_0_11 (n3 _) dX0_canTake_8 ?_
            refine J_alen (v := 3) 5 (n14 _) rfl rfl rfl dX0_canTake_11 ?_
            refine J_icmp_ge 88 (by decide) dX0_canTake_12 (fun c144 => ?_) (fun c144 => ?_)
            rotate_left
            · exact absurd (by decide) c144
            refine J_iload_n 2 rfl dX0_canTake_88 ?_
            refine J_if_eq 100 (by decide) dX0_canTake_89 (fun c145 => ?_) (fun c145 => ?_)
            · skip
              refine J_iconst (v := 0) (by decide) dX0_canTake_100 ?_
              exact J_ireturn rfl (by first | rfl | assumption | simp [kb_nar]) dX0_canTake_101 (⟨by (try simp only [kb_0, kb_1, kb_n0, kb_n1, decide_eq_false_iff_not, decide_eq_true_eq, ne_eq, Classical.not_not] at *); first | (simp [kb, kb_0, kb_1, vr_n, vr_s, takF, may_1, may_2, havF_n, havF_s, shF_none, shF_some, *]; done) | (simp [kb, kb_0, kb_1, vr_n, vr_s, takF, may_1, may_2, havF_n, havF_s, shF_none, shF_some, *] <;> grind), rfl⟩) (by omega) (by omega)
            · skip
              refine J_iload_n 3 rfl dX0_canTake_92 ?_
              refine J_if_eq 100 (by decide) dX0_canTake_93 (fun c146 => ?_) (fun c146 => ?_)
              · exact absurd c146 (by decide)
              refine J_iconst (v := 1) (by decide) dX0_canTake_96 ?_
              refine J_goto 101 (by decide) dX0_canTake_97 ?_
              exact J_ireturn rfl (by first | rfl | assumption | simp [kb_nar]) dX0_canTake_101 (⟨by (try simp only [kb_0, kb_1, kb_n0, kb_n1, decide_eq_false_iff_not, decide_eq_true_eq, ne_eq, Classical.not_not] at *); first | (simp [kb, kb_0, kb_1, vr_n, vr_s, takF, may_1, may_2, havF_n, havF_s, shF_none, shF_some, *]; done) | (simp [kb, kb_0, kb_1, vr_n, vr_s, takF, may_1, may_2, havF_n, havF_s, shF_none, shF_some, *] <;> grind), rfl⟩) (by omega) (by omega)
      · skip
        have ma114 : a114 ∈ LP := hsp _ _ (by decide) o113
        refine J_topv (v' := .ref a114) (by first | rfl | (rw [o113]; rfl)) ?_
        refine J_astore (lv' := [(0, .ref (ka S 3 0)), (1, .ref a), (2, .int v), (3, .int 1), (4, .int 1), (5, .ref a114), (6, .int 1)]) (by decide) rfl dX0_canTake_22 ?_
        refine J_aload 5 rfl dX0_canTake_24 ?_
        refine J_ifnull dX0_canTake_26 ?_
        refine J_aload_n 1 rfl dX0_canTake_29 ?_
        refine J_aload 5 rfl dX0_canTake_30 ?_
        refine cv_0_25 (cells' := 0) (slots' := 0) dX0_canTake_32 (c_X5_canBreakInOn (by assumption) (by assumption)) (n20 (by assumption)) ⟨by decide, by decide⟩ rfl rfl (by decide) (by decide) (Nat.le_of_ble_eq_true rfl) (fun _ _ r147 => ?_) (fun _ _ h => h.elim)
        obtain ⟨rfl, rfl⟩ := r147
        refine J_eq (st' := [.int (kb (brkF I a a114))]) rfl rfl rfl ?_
        refine J_if_eq 42 (by decide) dX0_canTake_35 (fun c148 => ?_) (fun c148 => ?_)
        · skip
          refine J_iconst (v := 0) (by decide) dX0_canTake_42 ?_
          refine J_istore (lv' := [(0, .ref (ka S 3 0)), (1, .ref a), (2, .int v), (3, .int 1), (4, .int 1), (5, .ref a114), (6, .int 0)]) (by decide) rfl dX0_canTake_43 ?_
          refine J_aload 5 rfl dX0_canTake_45 ?_
          refine J_ifnull dX0_canTake_47 ?_
          refine J_iload 6 rfl dX0_canTake_50 ?_
          refine J_if_ne 66 (by decide) dX0_canTake_52 (fun c149 => ?_) (fun c149 => ?_)
          · exact absurd (by decide) c149
          refine J_aload 5 rfl dX0_canTake_55 ?_
          refine J_iload_n 2 rfl dX0_canTake_57 ?_
          refine cv_0_21 (cells' := 0) (slots' := 0) dX0_canTake_58 (c_X5_sharesStationWith (by assumption)) (n20 (by assumption)) ⟨by decide, by decide⟩ rfl rfl (by decide) (by decide) (Nat.le_of_ble_eq_true rfl) (fun _ _ r150 => ?_) (fun _ _ h => h.elim)
          obtain ⟨rfl, rfl⟩ := r150
          refine J_eq (st' := [.int (kb (shrF I a114 v))]) rfl rfl rfl ?_
          refine J_if_eq 66 (by decide) dX0_canTake_61 (fun c151 => ?_) (fun c151 => ?_)
          · skip
            refine J_iload 6 rfl dX0_canTake_66 ?_
            refine J_if_eq 82 (by decide) dX0_canTake_68 (fun c152 => ?_) (fun c152 => ?_)
            rotate_left
            · exact absurd (by decide) c152
            refine J_iinc (v := 2) (lv' := [(0, .ref (ka S 3 0)), (1, .ref a), (2, .int v), (3, .int 1), (4, .int 2), (5, .ref a114), (6, .int 0)]) 4 rfl (by decide) (by decide) rfl dX0_canTake_82 ?_
            refine J_goto 5 (by decide) dX0_canTake_85 ?_
            refine J_iload 4 rfl dX0_canTake_5 ?_
            refine J_aload_n 0 rfl dX0_canTake_7 ?_
            refine gf_0_11 (n3 _) dX0_canTake_8 ?_
            refine J_alen (v := 3) 5 (n14 _) rfl rfl rfl dX0_canTake_11 ?_
            refine J_icmp_ge 88 (by decide) dX0_canTake_12 (fun c154 => ?_) (fun c154 => ?_)
            · exact absurd c154 (by decide)
            refine J_aload_n 0 rfl dX0_canTake_15 ?_
            refine gf_0_11 (n3 _) dX0_canTake_16 ?_
            refine J_iload 4 rfl dX0_canTake_19 ?_
            refine J_aald 2 5 (n14 _) rfl rfl (vp_in_iff.mpr (by decide)) (by decide) dX0_canTake_21 ?_
            rcases opt_split (R 14 0 2) with o155 | ⟨a156, o155⟩
            · skip
              refine J_topv (v' := .null) (by first | rfl | (rw [o155]; rfl)) ?_
              refine J_astoreN (lv' := [(0, .ref (ka S 3 0)), (1, .ref a), (2, .int v), (3, .int 1), (4, .int 2), (5, .null), (6, .int 0)]) (by decide) rfl dX0_canTake_22 ?_
              refine J_aloadN 5 rfl dX0_canTake_24 ?_
              refine J_ifnullN 38 (by decide) dX0_canTake_26 ?_
              refine J_iconst (v := 1) (by decide) dX0_canTake_38 ?_
              refine J_goto 43 (by decide) dX0_canTake_39 ?_
              refine J_istore (lv' := [(0, .ref (ka S 3 0)), (1, .ref a), (2, .int v), (3, .int 1), (4, .int 2), (5, .null), (6, .int 1)]) (by decide) rfl dX0_canTake_43 ?_
              refine J_aloadN 5 rfl dX0_canTake_45 ?_
              refine J_ifnullN 66 (by decide) dX0_canTake_47 ?_
              refine J_iload 6 rfl dX0_canTake_66 ?_
              refine J_if_eq 82 (by decide) dX0_canTake_68 (fun c157 => ?_) (fun c157 => ?_)
              · exact absurd c157 (by decide)
              refine J_aload_n 1 rfl dX0_canTake_71 ?_
              refine J_iload 4 rfl dX0_canTake_72 ?_
              refine cv_0_29 (cells' := 0) (slots' := 0) dX0_canTake_74 (c_X5_mayHave (by assumption)) (n20 (by assumption)) ⟨by decide, by decide⟩ rfl rfl (by decide) (by decide) (Nat.le_of_ble_eq_true rfl) (fun _ _ r158 => ?_) (fun _ _ h => h.elim)
              obtain ⟨rfl, rfl⟩ := r158
              refine J_eq (st' := [.int (kb (mayF I a 2))]) rfl rfl rfl ?_
              refine J_topv (v' := .int 1) (by first | rfl | (rw [may_2]; rfl)) ?_
              refine J_if_eq 82 (by decide) dX0_canTake_77 (fun c159 => ?_) (fun c159 => ?_)
              · exact absurd c159 (by decide)
              refine J_iconst (v := 1) (by decide) dX0_canTake_80 ?_
              refine J_istore_n (lv' := [(0, .ref (ka S 3 0)), (1, .ref a), (2, .int v), (3, .int 1), (4, .int 2), (5, .null), (6, .int 1)]) (by decide) rfl dX0_canTake_81 ?_
              refine J_iinc (v := 3) (lv' := [(0, .ref (ka S 3 0)), (1, .ref a), (2, .int v), (3, .int 1), (4, .int 3), (5, .null), (6, .int 1)]) 4 rfl (by decide) (by decide) rfl dX0_canTake_82 ?_
              refine J_goto 5 (by decide) dX0_canTake_85 ?_
              refine J_iload 4 rfl dX0_canTake_5 ?_
              refine J_aload_n 0 rfl dX0_canTake_7 ?_
              refine gf_0_11 (n3 _) dX0_canTake_8 ?_
              refine J_alen (v := 3) 5 (n14 _) rfl rfl rfl dX0_canTake_11 ?_
              refine J_icmp_ge 88 (by decide) dX0_canTake_12 (fun c161 => ?_) (fun c161 => ?_)
              rotate_left
              · exact absurd (by decide) c161
              refine J_iload_n 2 rfl dX0_canTake_88 ?_
              refine J_if_eq 100 (by decide) dX0_canTake_89 (fun c162 => ?_) (fun c162 => ?_)
              · skip
                refine J_iconst (v := 0) (by decide) dX0_canTake_100 ?_
                exact J_ireturn rfl (by first | rfl | assumption | simp [kb_nar]) dX0_canTake_101 (⟨by (try simp only [kb_0, kb_1, kb_n0, kb_n1, decide_eq_false_iff_not, decide_eq_true_eq, ne_eq, Classical.not_not] at *); first | (simp [kb, kb_0, kb_1, vr_n, vr_s, takF, may_1, may_2, havF_n, havF_s, shF_none, shF_some, *]; done) | (simp [kb, kb_0, kb_1, vr_n, vr_s, takF, may_1, may_2, havF_n, havF_s, shF_none, shF_some, *] <;> grind), rfl⟩) (by omega) (by omega)
              · skip
                refine J_iload_n 3 rfl dX0_canTake_92 ?_
                refine J_if_eq 100 (by decide) dX0_canTake_93 (fun c163 => ?_) (fun c163 => ?_)
                · exact absurd c163 (by decide)
                refine J_iconst (v := 1) (by decide) dX0_canTake_96 ?_
                refine J_goto 101 (by decide) dX0_canTake_97 ?_
                exact J_ireturn rfl (by first | rfl | assumption | simp [kb_nar]) dX0_canTake_101 (⟨by (try simp only [kb_0, kb_1, kb_n0, kb_n1, decide_eq_false_iff_not, decide_eq_true_eq, ne_eq, Classical.not_not] at *); first | (simp [kb, kb_0, kb_1, vr_n, vr_s, takF, may_1, may_2, havF_n, havF_s, shF_none, shF_some, *]; done) | (simp [kb, kb_0, kb_1, vr_n, vr_s, takF, may_1, may_2, havF_n, havF_s, shF_none, shF_some, *] <;> grind), rfl⟩) (by omega) (by omega)
            · skip
              have ma156 : a156 ∈ LP := hsp _ _ (by decide) o155
              refine J_topv (v' := .ref a156) (by first | rfl | (rw [o155]; rfl)) ?_
              refine J_astore (lv' := [(0, .ref (ka S 3 0)), (1, .ref a), (2, .int v), (3, .int 1), (4, .int 2), (5, .ref a156), (6, .int 0)]) (by decide) rfl dX0_canTake_22 ?_
              refine J_aload 5 rfl dX0_canTake_24 ?_
              refine J_ifnull dX0_canTake_26 ?_
              refine J_aload_n 1 rfl dX0_canTake_29 ?_
              refine J_aload 5 rfl dX0_canTake_30 ?_
              refine cv_0_25 (cells' := 0) (slots' := 0) dX0_canTake_32 (c_X5_canBreakInOn (by assumption) (by assumption)) (n20 (by assumption)) ⟨by decide, by decide⟩ rfl rfl (by decide) (by decide) (Nat.le_of_ble_eq_true rfl) (fun _ _ r164 => ?_) (fun _ _ h => h.elim)
              obtain ⟨rfl, rfl⟩ := r164
              refine J_eq (st' := [.int (kb (brkF I a a156))]) rfl rfl rfl ?_
              refine J_if_eq 42 (by decide) dX0_canTake_35 (fun c165 => ?_) (fun c165 => ?_)
              · skip
                refine J_iconst (v := 0) (by decide) dX0_canTake_42 ?_
                refine J_istore (lv' := [(0, .ref (ka S 3 0)), (1, .ref a), (2, .int v), (3, .int 1), (4, .int 2), (5, .ref a156), (6, .int 0)]) (by decide) rfl dX0_canTake_43 ?_
                refine J_aload 5 rfl dX0_canTake_45 ?_
                refine J_ifnull dX0_canTake_47 ?_
                refine J_iload 6 rfl dX0_canTake_50 ?_
                refine J_if_ne 66 (by decide) dX0_canTake_52 (fun c166 => ?_) (fun c166 => ?_)
                · exact absurd (by decide) c166
                refine J_aload 5 rfl dX0_canTake_55 ?_
                refine J_iload_n 2 rfl dX0_canTake_57 ?_
                refine cv_0_21 (cells' := 0) (slots' := 0) dX0_canTake_58 (c_X5_sharesStationWith (by assumption)) (n20 (by assumption)) ⟨by decide, by decide⟩ rfl rfl (by decide) (by decide) (Nat.le_of_ble_eq_true rfl) (fun _ _ r167 => ?_) (fun _ _ h => h.elim)
                obtain ⟨rfl, rfl⟩ := r167
                refine J_eq (st' := [.int (kb (shrF I a156 v))]) rfl rfl rfl ?_
                refine J_if_eq 66 (by decide) dX0_canTake_61 (fun c168 => ?_) (fun c168 => ?_)
                · skip
                  refine J_iload 6 rfl dX0_canTake_66 ?_
                  refine J_if_eq 82 (by decide) dX0_canTake_68 (fun c169 => ?_) (fun c169 => ?_)
                  rotate_left
                  · exact absurd (by decide) c169
                  refine J_iinc (v := 3) (lv' := [(0, .ref (ka S 3 0)), (1, .ref a), (2, .int v), (3, .int 1), (4, .int 3), (5, .ref a156), (6, .int 0)]) 4 rfl (by decide) (by decide) rfl dX0_canTake_82 ?_
                  refine J_goto 5 (by decide) dX0_canTake_85 ?_
                  refine J_iload 4 rfl dX0_canTake_5 ?_
                  refine J_aload_n 0 rfl dX0_canTake_7 ?_
                  refine gf_0_11 (n3 _) dX0_canTake_8 ?_
                  refine J_alen (v := 3) 5 (n14 _) rfl rfl rfl dX0_canTake_11 ?_
                  refine J_icmp_ge 88 (by decide) dX0_canTake_12 (fun c171 => ?_) (fun c171 => ?_)
                  rotate_left
                  · exact absurd (by decide) c171
                  refine J_iload_n 2 rfl dX0_canTake_88 ?_
                  refine J_if_eq 100 (by decide) dX0_canTake_89 (fun c172 => ?_) (fun c172 => ?_)
                  · skip
                    refine J_iconst (v := 0) (by decide) dX0_canTake_100 ?_
                    exact J_ireturn rfl (by first | rfl | assumption | simp [kb_nar]) dX0_canTake_101 (⟨by (try simp only [kb_0, kb_1, kb_n0, kb_n1, decide_eq_false_iff_not, decide_eq_true_eq, ne_eq, Classical.not_not] at *); first | (simp [kb, kb_0, kb_1, vr_n, vr_s, takF, may_1, may_2, havF_n, havF_s, shF_none, shF_some, *]; done) | (simp [kb, kb_0, kb_1, vr_n, vr_s, takF, may_1, may_2, havF_n, havF_s, shF_none, shF_some, *] <;> grind), rfl⟩) (by omega) (by omega)
                  · skip
                    refine J_iload_n 3 rfl dX0_canTake_92 ?_
                    refine J_if_eq 100 (by decide) dX0_canTake_93 (fun c173 => ?_) (fun c173 => ?_)
                    · exact absurd c173 (by decide)
                    refine J_iconst (v := 1) (by decide) dX0_canTake_96 ?_
                    refine J_goto 101 (by decide) dX0_canTake_97 ?_
                    exact J_ireturn rfl (by first | rfl | assumption | simp [kb_nar]) dX0_canTake_101 (⟨by (try simp only [kb_0, kb_1, kb_n0, kb_n1, decide_eq_false_iff_not, decide_eq_true_eq, ne_eq, Classical.not_not] at *); first | (simp [kb, kb_0, kb_1, vr_n, vr_s, takF, may_1, may_2, havF_n, havF_s, shF_none, shF_some, *]; done) | (simp [kb, kb_0, kb_1, vr_n, vr_s, takF, may_1, may_2, havF_n, havF_s, shF_none, shF_some, *] <;> grind), rfl⟩) (by omega) (by omega)
                · skip
                  refine J_iconst (v := 0) (by decide) dX0_canTake_64 ?_
                  exact J_ireturn rfl (by first | rfl | assumption | simp [kb_nar]) dX0_canTake_65 (⟨by (try simp only [kb_0, kb_1, kb_n0, kb_n1, decide_eq_false_iff_not, decide_eq_true_eq, ne_eq, Classical.not_not] at *); first | (simp [kb, kb_0, kb_1, vr_n, vr_s, takF, may_1, may_2, havF_n, havF_s, shF_none, shF_some, *]; done) | (simp [kb, kb_0, kb_1, vr_n, vr_s, takF, may_1, may_2, havF_n, havF_s, shF_none, shF_some, *] <;> grind), rfl⟩) (by omega) (by omega)
              · skip
                refine J_iconst (v := 1) (by decide) dX0_canTake_38 ?_
                refine J_goto 43 (by decide) dX0_canTake_39 ?_
                refine J_istore (lv' := [(0, .ref (ka S 3 0)), (1, .ref a), (2, .int v), (3, .int 1), (4, .int 2), (5, .ref a156), (6, .int 1)]) (by decide) rfl dX0_canTake_43 ?_
                refine J_aload 5 rfl dX0_canTake_45 ?_
                refine J_ifnull dX0_canTake_47 ?_
                refine J_iload 6 rfl dX0_canTake_50 ?_
                refine J_if_ne 66 (by decide) dX0_canTake_52 (fun c174 => ?_) (fun c174 => ?_)
                rotate_left
                · exact absurd c174 (by decide)
                refine J_iload 6 rfl dX0_canTake_66 ?_
                refine J_if_eq 82 (by decide) dX0_canTake_68 (fun c175 => ?_) (fun c175 => ?_)
                · exact absurd c175 (by decide)
                refine J_aload_n 1 rfl dX0_canTake_71 ?_
                refine J_iload 4 rfl dX0_canTake_72 ?_
                refine cv_0_29 (cells' := 0) (slots' := 0) dX0_canTake_74 (c_X5_mayHave (by assumption)) (n20 (by assumption)) ⟨by decide, by decide⟩ rfl rfl (by decide) (by decide) (Nat.le_of_ble_eq_true rfl) (fun _ _ r176 => ?_) (fun _ _ h => h.elim)
                obtain ⟨rfl, rfl⟩ := r176
                refine J_eq (st' := [.int (kb (mayF I a 2))]) rfl rfl rfl ?_
                refine J_topv (v' := .int 1) (by first | rfl | (rw [may_2]; rfl)) ?_
                refine J_if_eq 82 (by decide) dX0_canTake_77 (fun c177 => ?_) (fun c177 => ?_)
                · exact absurd c177 (by decide)
                refine J_iconst (v := 1) (by decide) dX0_canTake_80 ?_
                refine J_istore_n (lv' := [(0, .ref (ka S 3 0)), (1, .ref a), (2, .int v), (3, .int 1), (4, .int 2), (5, .ref a156), (6, .int 1)]) (by decide) rfl dX0_canTake_81 ?_
                refine J_iinc (v := 3) (lv' := [(0, .ref (ka S 3 0)), (1, .ref a), (2, .int v), (3, .int 1), (4, .int 3), (5, .ref a156), (6, .int 1)]) 4 rfl (by decide) (by decide) rfl dX0_canTake_82 ?_
                refine J_goto 5 (by decide) dX0_canTake_85 ?_
                refine J_iload 4 rfl dX0_canTake_5 ?_
                refine J_aload_n 0 rfl dX0_canTake_7 ?_
                refine gf_0_11 (n3 _) dX0_canTake_8 ?_
                refine J_alen (v := 3) 5 (n14 _) rfl rfl rfl dX0_canTake_11 ?_
                refine J_icmp_ge 88 (by decide) dX0_canTake_12 (fun c179 => ?_) (fun c179 => ?_)
                rotate_left
                · exact absurd (by decide) c179
                refine J_iload_n 2 rfl dX0_canTake_88 ?_
                refine J_if_eq 100 (by decide) dX0_canTake_89 (fun c180 => ?_) (fun c180 => ?_)
                · skip
                  refine J_iconst (v := 0) (by decide) dX0_canTake_100 ?_
                  exact J_ireturn rfl (by first | rfl | assumption | simp [kb_nar]) dX0_canTake_101 (⟨by (try simp only [kb_0, kb_1, kb_n0, kb_n1, decide_eq_false_iff_not, decide_eq_true_eq, ne_eq, Classical.not_not] at *); first | (simp [kb, kb_0, kb_1, vr_n, vr_s, takF, may_1, may_2, havF_n, havF_s, shF_none, shF_some, *]; done) | (simp [kb, kb_0, kb_1, vr_n, vr_s, takF, may_1, may_2, havF_n, havF_s, shF_none, shF_some, *] <;> grind), rfl⟩) (by omega) (by omega)
                · skip
                  refine J_iload_n 3 rfl dX0_canTake_92 ?_
                  refine J_if_eq 100 (by decide) dX0_canTake_93 (fun c181 => ?_) (fun c181 => ?_)
                  · exact absurd c181 (by decide)
                  refine J_iconst (v := 1) (by decide) dX0_canTake_96 ?_
                  refine J_goto 101 (by decide) dX0_canTake_97 ?_
                  exact J_ireturn rfl (by first | rfl | assumption | simp [kb_nar]) dX0_canTake_101 (⟨by (try simp only [kb_0, kb_1, kb_n0, kb_n1, decide_eq_false_iff_not, decide_eq_true_eq, ne_eq, Classical.not_not] at *); first | (simp [kb, kb_0, kb_1, vr_n, vr_s, takF, may_1, may_2, havF_n, havF_s, shF_none, shF_some, *]; done) | (simp [kb, kb_0, kb_1, vr_n, vr_s, takF, may_1, may_2, havF_n, havF_s, shF_none, shF_some, *] <;> grind), rfl⟩) (by omega) (by omega)
          · skip
            refine J_iconst (v := 0) (by decide) dX0_canTake_64 ?_
            exact J_ireturn rfl (by first | rfl | assumption | simp [kb_nar]) dX0_canTake_65 (⟨by (try simp only [kb_0, kb_1, kb_n0, kb_n1, decide_eq_false_iff_not, decide_eq_true_eq, ne_eq, Classical.not_not] at *); first | (simp [kb, kb_0, kb_1, vr_n, vr_s, takF, may_1, may_2, havF_n, havF_s, shF_none, shF_some, *]; done) | (simp [kb, kb_0, kb_1, vr_n, vr_s, takF, may_1, may_2, havF_n, havF_s, shF_none, shF_some, *] <;> grind), rfl⟩) (by omega) (by omega)
        · skip
          refine J_iconst (v := 1) (by decide) dX0_canTake_38 ?_
          refine J_goto 43 (by decide) dX0_canTake_39 ?_
          refine J_istore (lv' := [(0, .ref (ka S 3 0)), (1, .ref a), (2, .int v), (3, .int 1), (4, .int 1), (5, .ref a114), (6, .int 1)]) (by decide) rfl dX0_canTake_43 ?_
          refine J_aload 5 rfl dX0_canTake_45 ?_
          refine J_ifnull dX0_canTake_47 ?_
          refine J_iload 6 rfl dX0_canTake_50 ?_
          refine J_if_ne 66 (by decide) dX0_canTake_52 (fun c182 => ?_) (fun c182 => ?_)
          rotate_left
          · exact absurd c182 (by decide)
          refine J_iload 6 rfl dX0_canTake_66 ?_
          refine J_if_eq 82 (by decide) dX0_canTake_68 (fun c183 => ?_) (fun c183 => ?_)
          · exact absurd c183 (by decide)
          refine J_aload_n 1 rfl dX0_canTake_71 ?_
          refine J_iload 4 rfl dX0_canTake_72 ?_
          refine cv_0_29 (cells' := 0) (slots' := 0) dX0_canTake_74 (c_X5_mayHave (by assumption)) (n20 (by assumption)) ⟨by decide, by decide⟩ rfl rfl (by decide) (by decide) (Nat.le_of_ble_eq_true rfl) (fun _ _ r184 => ?_) (fun _ _ h => h.elim)
          obtain ⟨rfl, rfl⟩ := r184
          refine J_eq (st' := [.int (kb (mayF I a 1))]) rfl rfl rfl ?_
          refine J_topv (v' := .int 1) (by first | rfl | (rw [may_1]; rfl)) ?_
          refine J_if_eq 82 (by decide) dX0_canTake_77 (fun c185 => ?_) (fun c185 => ?_)
          · exact absurd c185 (by decide)
          refine J_iconst (v := 1) (by decide) dX0_canTake_80 ?_
          refine J_istore_n (lv' := [(0, .ref (ka S 3 0)), (1, .ref a), (2, .int v), (3, .int 1), (4, .int 1), (5, .ref a114), (6, .int 1)]) (by decide) rfl dX0_canTake_81 ?_
          refine J_iinc (v := 2) (lv' := [(0, .ref (ka S 3 0)), (1, .ref a), (2, .int v), (3, .int 1), (4, .int 2), (5, .ref a114), (6, .int 1)]) 4 rfl (by decide) (by decide) rfl dX0_canTake_82 ?_
          refine J_goto 5 (by decide) dX0_canTake_85 ?_
          refine J_iload 4 rfl dX0_canTake_5 ?_
          refine J_aload_n 0 rfl dX0_canTake_7 ?_
          refine gf_0_11 (n3 _) dX0_canTake_8 ?_
          refine J_alen (v := 3) 5 (n14 _) rfl rfl rfl dX0_canTake_11 ?_
          refine J_icmp_ge 88 (by decide) dX0_canTake_12 (fun c187 => ?_) (fun c187 => ?_)
          · exact absurd c187 (by decide)
          refine J_aload_n 0 rfl dX0_canTake_15 ?_
          refine gf_0_11 (n3 _) dX0_canTake_16 ?_
          refine J_iload 4 rfl dX0_canTake_19 ?_
          refine J_aald 2 5 (n14 _) rfl rfl (vp_in_iff.mpr (by decide)) (by decide) dX0_canTake_21 ?_
          rcases opt_split (R 14 0 2) with o188 | ⟨a189, o188⟩
          · skip
            refine J_topv (v' := .null) (by first | rfl | (rw [o188]; rfl)) ?_
            refine J_astoreN (lv' := [(0, .ref (ka S 3 0)), (1, .ref a), (2, .int v), (3, .int 1), (4, .int 2), (5, .null), (6, .int 1)]) (by decide) rfl dX0_canTake_22 ?_
            refine J_aloadN 5 rfl dX0_canTake_24 ?_
            refine J_ifnullN 38 (by decide) dX0_canTake_26 ?_
            refine J_iconst (v := 1) (by decide) dX0_canTake_38 ?_
            refine J_goto 43 (by decide) dX0_canTake_39 ?_
            refine J_istore (lv' := [(0, .ref (ka S 3 0)), (1, .ref a), (2, .int v), (3, .int 1), (4, .int 2), (5, .null), (6, .int 1)]) (by decide) rfl dX0_canTake_43 ?_
            refine J_aloadN 5 rfl dX0_canTake_45 ?_
            refine J_ifnullN 66 (by decide) dX0_canTake_47 ?_
            refine J_iload 6 rfl dX0_canTake_66 ?_
            refine J_if_eq 82 (by decide) dX0_canTake_68 (fun c190 => ?_) (fun c190 => ?_)
            · exact absurd c190 (by decide)
            refine J_aload_n 1 rfl dX0_canTake_71 ?_
            refine J_iload 4 rfl dX0_canTake_72 ?_
            refine cv_0_29 (cells' := 0) (slots' := 0) dX0_canTake_74 (c_X5_mayHave (by assumption)) (n20 (by assumption)) ⟨by decide, by decide⟩ rfl rfl (by decide) (by decide) (Nat.le_of_ble_eq_true rfl) (fun _ _ r191 => ?_) (fun _ _ h => h.elim)
            obtain ⟨rfl, rfl⟩ := r191
            refine J_eq (st' := [.int (kb (mayF I a 2))]) rfl rfl rfl ?_
            refine J_topv (v' := .int 1) (by first | rfl | (rw [may_2]; rfl)) ?_
            refine J_if_eq 82 (by decide) dX0_canTake_77 (fun c192 => ?_) (fun c192 => ?_)
            · exact absurd c192 (by decide)
            refine J_iconst (v := 1) (by decide) dX0_canTake_80 ?_
            refine J_istore_n (lv' := [(0, .ref (ka S 3 0)), (1, .ref a), (2, .int v), (3, .int 1), (4, .int 2), (5, .null), (6, .int 1)]) (by decide) rfl dX0_canTake_81 ?_
            refine J_iinc (v := 3) (lv' := [(0, .ref (ka S 3 0)), (1, .ref a), (2, .int v), (3, .int 1), (4, .int 3), (5, .null), (6, .int 1)]) 4 rfl (by decide) (by decide) rfl dX0_canTake_82 ?_
            refine J_goto 5 (by decide) dX0_canTake_85 ?_
            refine J_iload 4 rfl dX0_canTake_5 ?_
            refine J_aload_n 0 rfl dX0_canTake_7 ?_
            refine gf_0_11 (n3 _) dX0_canTake_8 ?_
            refine J_alen (v := 3) 5 (n14 _) rfl rfl rfl dX0_canTake_11 ?_
            refine J_icmp_ge 88 (by decide) dX0_canTake_12 (fun c194 => ?_) (fun c194 => ?_)
            rotate_left
            · exact absurd (by decide) c194
            refine J_iload_n 2 rfl dX0_canTake_88 ?_
            refine J_if_eq 100 (by decide) dX0_canTake_89 (fun c195 => ?_) (fun c195 => ?_)
            · skip
              refine J_iconst (v := 0) (by decide) dX0_canTake_100 ?_
              exact J_ireturn rfl (by first | rfl | assumption | simp [kb_nar]) dX0_canTake_101 (⟨by (try simp only [kb_0, kb_1, kb_n0, kb_n1, decide_eq_false_iff_not, decide_eq_true_eq, ne_eq, Classical.not_not] at *); first | (simp [kb, kb_0, kb_1, vr_n, vr_s, takF, may_1, may_2, havF_n, havF_s, shF_none, shF_some, *]; done) | (simp [kb, kb_0, kb_1, vr_n, vr_s, takF, may_1, may_2, havF_n, havF_s, shF_none, shF_some, *] <;> grind), rfl⟩) (by omega) (by omega)
            · skip
              refine J_iload_n 3 rfl dX0_canTake_92 ?_
              refine J_if_eq 100 (by decide) dX0_canTake_93 (fun c196 => ?_) (fun c196 => ?_)
              · exact absurd c196 (by decide)
              refine J_iconst (v := 1) (by decide) dX0_canTake_96 ?_
              refine J_goto 101 (by decide) dX0_canTake_97 ?_
              exact J_ireturn rfl (by first | rfl | assumption | simp [kb_nar]) dX0_canTake_101 (⟨by (try simp only [kb_0, kb_1, kb_n0, kb_n1, decide_eq_false_iff_not, decide_eq_true_eq, ne_eq, Classical.not_not] at *); first | (simp [kb, kb_0, kb_1, vr_n, vr_s, takF, may_1, may_2, havF_n, havF_s, shF_none, shF_some, *]; done) | (simp [kb, kb_0, kb_1, vr_n, vr_s, takF, may_1, may_2, havF_n, havF_s, shF_none, shF_some, *] <;> grind), rfl⟩) (by omega) (by omega)
          · skip
            have ma189 : a189 ∈ LP := hsp _ _ (by decide) o188
            refine J_topv (v' := .ref a189) (by first | rfl | (rw [o188]; rfl)) ?_
            refine J_astore (lv' := [(0, .ref (ka S 3 0)), (1, .ref a), (2, .int v), (3, .int 1), (4, .int 2), (5, .ref a189), (6, .int 1)]) (by decide) rfl dX0_canTake_22 ?_
            refine J_aload 5 rfl dX0_canTake_24 ?_
            refine J_ifnull dX0_canTake_26 ?_
            refine J_aload_n 1 rfl dX0_canTake_29 ?_
            refine J_aload 5 rfl dX0_canTake_30 ?_
            refine cv_0_25 (cells' := 0) (slots' := 0) dX0_canTake_32 (c_X5_canBreakInOn (by assumption) (by assumption)) (n20 (by assumption)) ⟨by decide, by decide⟩ rfl rfl (by decide) (by decide) (Nat.le_of_ble_eq_true rfl) (fun _ _ r197 => ?_) (fun _ _ h => h.elim)
            obtain ⟨rfl, rfl⟩ := r197
            refine J_eq (st' := [.int (kb (brkF I a a189))]) rfl rfl rfl ?_
            refine J_if_eq 42 (by decide) dX0_canTake_35 (fun c198 => ?_) (fun c198 => ?_)
            · skip
              refine J_iconst (v := 0) (by decide) dX0_canTake_42 ?_
              refine J_istore (lv' := [(0, .ref (ka S 3 0)), (1, .ref a), (2, .int v), (3, .int 1), (4, .int 2), (5, .ref a189), (6, .int 0)]) (by decide) rfl dX0_canTake_43 ?_
              refine J_aload 5 rfl dX0_canTake_45 ?_
              refine J_ifnull dX0_canTake_47 ?_
              refine J_iload 6 rfl dX0_canTake_50 ?_
              refine J_if_ne 66 (by decide) dX0_canTake_52 (fun c199 => ?_) (fun c199 => ?_)
              · exact absurd (by decide) c199
              refine J_aload 5 rfl dX0_canTake_55 ?_
              refine J_iload_n 2 rfl dX0_canTake_57 ?_
              refine cv_0_21 (cells' := 0) (slots' := 0) dX0_canTake_58 (c_X5_sharesStationWith (by assumption)) (n20 (by assumption)) ⟨by decide, by decide⟩ rfl rfl (by decide) (by decide) (Nat.le_of_ble_eq_true rfl) (fun _ _ r200 => ?_) (fun _ _ h => h.elim)
              obtain ⟨rfl, rfl⟩ := r200
              refine J_eq (st' := [.int (kb (shrF I a189 v))]) rfl rfl rfl ?_
              refine J_if_eq 66 (by decide) dX0_canTake_61 (fun c201 => ?_) (fun c201 => ?_)
              · skip
                refine J_iload 6 rfl dX0_canTake_66 ?_
                refine J_if_eq 82 (by decide) dX0_canTake_68 (fun c202 => ?_) (fun c202 => ?_)
                rotate_left
                · exact absurd (by decide) c202
                refine J_iinc (v := 3) (lv' := [(0, .ref (ka S 3 0)), (1, .ref a), (2, .int v), (3, .int 1), (4, .int 3), (5, .ref a189), (6, .int 0)]) 4 rfl (by decide) (by decide) rfl dX0_canTake_82 ?_
                refine J_goto 5 (by decide) dX0_canTake_85 ?_
                refine J_iload 4 rfl dX0_canTake_5 ?_
                refine J_aload_n 0 rfl dX0_canTake_7 ?_
                refine gf_0_11 (n3 _) dX0_canTake_8 ?_
                refine J_alen (v := 3) 5 (n14 _) rfl rfl rfl dX0_canTake_11 ?_
                refine J_icmp_ge 88 (by decide) dX0_canTake_12 (fun c204 => ?_) (fun c204 => ?_)
                rotate_left
                · exact absurd (by decide) c204
                refine J_iload_n 2 rfl dX0_canTake_88 ?_
                refine J_if_eq 100 (by decide) dX0_canTake_89 (fun c205 => ?_) (fun c205 => ?_)
                · skip
                  refine J_iconst (v := 0) (by decide) dX0_canTake_100 ?_
                  exact J_ireturn rfl (by first | rfl | assumption | simp [kb_nar]) dX0_canTake_101 (⟨by (try simp only [kb_0, kb_1, kb_n0, kb_n1, decide_eq_false_iff_not, decide_eq_true_eq, ne_eq, Classical.not_not] at *); first | (simp [kb, kb_0, kb_1, vr_n, vr_s, takF, may_1, may_2, havF_n, havF_s, shF_none, shF_some, *]; done) | (simp [kb, kb_0, kb_1, vr_n, vr_s, takF, may_1, may_2, havF_n, havF_s, shF_none, shF_some, *] <;> grind), rfl⟩) (by omega) (by omega)
                · skip
                  refine J_iload_n 3 rfl dX0_canTake_92 ?_
                  refine J_if_eq 100 (by decide) dX0_canTake_93 (fun c206 => ?_) (fun c206 => ?_)
                  · exact absurd c206 (by decide)
                  refine J_iconst (v := 1) (by decide) dX0_canTake_96 ?_
                  refine J_goto 101 (by decide) dX0_canTake_97 ?_
                  exact J_ireturn rfl (by first | rfl | assumption | simp [kb_nar]) dX0_canTake_101 (⟨by (try simp only [kb_0, kb_1, kb_n0, kb_n1, decide_eq_false_iff_not, decide_eq_true_eq, ne_eq, Classical.not_not] at *); first | (simp [kb, kb_0, kb_1, vr_n, vr_s, takF, may_1, may_2, havF_n, havF_s, shF_none, shF_some, *]; done) | (simp [kb, kb_0, kb_1, vr_n, vr_s, takF, may_1, may_2, havF_n, havF_s, shF_none, shF_some, *] <;> grind), rfl⟩) (by omega) (by omega)
              · skip
                refine J_iconst (v := 0) (by decide) dX0_canTake_64 ?_
                exact J_ireturn rfl (by first | rfl | assumption | simp [kb_nar]) dX0_canTake_65 (⟨by (try simp only [kb_0, kb_1, kb_n0, kb_n1, decide_eq_false_iff_not, decide_eq_true_eq, ne_eq, Classical.not_not] at *); first | (simp [kb, kb_0, kb_1, vr_n, vr_s, takF, may_1, may_2, havF_n, havF_s, shF_none, shF_some, *]; done) | (simp [kb, kb_0, kb_1, vr_n, vr_s, takF, may_1, may_2, havF_n, havF_s, shF_none, shF_some, *] <;> grind), rfl⟩) (by omega) (by omega)
            · skip
              refine J_iconst (v := 1) (by decide) dX0_canTake_38 ?_
              refine J_goto 43 (by decide) dX0_canTake_39 ?_
              refine J_istore (lv' := [(0, .ref (ka S 3 0)), (1, .ref a), (2, .int v), (3, .int 1), (4, .int 2), (5, .ref a189), (6, .int 1)]) (by decide) rfl dX0_canTake_43 ?_
              refine J_aload 5 rfl dX0_canTake_45 ?_
              refine J_ifnull dX0_canTake_47 ?_
              refine J_iload 6 rfl dX0_canTake_50 ?_
              refine J_if_ne 66 (by decide) dX0_canTake_52 (fun c207 => ?_) (fun c207 => ?_)
              rotate_left
              · exact absurd c207 (by decide)
              refine J_iload 6 rfl dX0_canTake_66 ?_
              refine J_if_eq 82 (by decide) dX0_canTake_68 (fun c208 => ?_) (fun c208 => ?_)
              · exact absurd c208 (by decide)
              refine J_aload_n 1 rfl dX0_canTake_71 ?_
              refine J_iload 4 rfl dX0_canTake_72 ?_
              refine cv_0_29 (cells' := 0) (slots' := 0) dX0_canTake_74 (c_X5_mayHave (by assumption)) (n20 (by assumption)) ⟨by decide, by decide⟩ rfl rfl (by decide) (by decide) (Nat.le_of_ble_eq_true rfl) (fun _ _ r209 => ?_) (fun _ _ h => h.elim)
              obtain ⟨rfl, rfl⟩ := r209
              refine J_eq (st' := [.int (kb (mayF I a 2))]) rfl rfl rfl ?_
              refine J_topv (v' := .int 1) (by first | rfl | (rw [may_2]; rfl)) ?_
              refine J_if_eq 82 (by decide) dX0_canTake_77 (fun c210 => ?_) (fun c210 => ?_)
              · exact absurd c210 (by decide)
              refine J_iconst (v := 1) (by decide) dX0_canTake_80 ?_
              refine J_istore_n (lv' := [(0, .ref (ka S 3 0)), (1, .ref a), (2, .int v), (3, .int 1), (4, .int 2), (5, .ref a189), (6, .int 1)]) (by decide) rfl dX0_canTake_81 ?_
              refine J_iinc (v := 3) (lv' := [(0, .ref (ka S 3 0)), (1, .ref a), (2, .int v), (3, .int 1), (4, .int 3), (5, .ref a189), (6, .int 1)]) 4 rfl (by decide) (by decide) rfl dX0_canTake_82 ?_
              refine J_goto 5 (by decide) dX0_canTake_85 ?_
              refine J_iload 4 rfl dX0_canTake_5 ?_
              refine J_aload_n 0 rfl dX0_canTake_7 ?_
              refine gf_0_11 (n3 _) dX0_canTake_8 ?_
              refine J_alen (v := 3) 5 (n14 _) rfl rfl rfl dX0_canTake_11 ?_
              refine J_icmp_ge 88 (by decide) dX0_canTake_12 (fun c212 => ?_) (fun c212 => ?_)
              rotate_left
              · exact absurd (by decide) c212
              refine J_iload_n 2 rfl dX0_canTake_88 ?_
              refine J_if_eq 100 (by decide) dX0_canTake_89 (fun c213 => ?_) (fun c213 => ?_)
              · skip
                refine J_iconst (v := 0) (by decide) dX0_canTake_100 ?_
                exact J_ireturn rfl (by first | rfl | assumption | simp [kb_nar]) dX0_canTake_101 (⟨by (try simp only [kb_0, kb_1, kb_n0, kb_n1, decide_eq_false_iff_not, decide_eq_true_eq, ne_eq, Classical.not_not] at *); first | (simp [kb, kb_0, kb_1, vr_n, vr_s, takF, may_1, may_2, havF_n, havF_s, shF_none, shF_some, *]; done) | (simp [kb, kb_0, kb_1, vr_n, vr_s, takF, may_1, may_2, havF_n, havF_s, shF_none, shF_some, *] <;> grind), rfl⟩) (by omega) (by omega)
              · skip
                refine J_iload_n 3 rfl dX0_canTake_92 ?_
                refine J_if_eq 100 (by decide) dX0_canTake_93 (fun c214 => ?_) (fun c214 => ?_)
                · exact absurd c214 (by decide)
                refine J_iconst (v := 1) (by decide) dX0_canTake_96 ?_
                refine J_goto 101 (by decide) dX0_canTake_97 ?_
                exact J_ireturn rfl (by first | rfl | assumption | simp [kb_nar]) dX0_canTake_101 (⟨by (try simp only [kb_0, kb_1, kb_n0, kb_n1, decide_eq_false_iff_not, decide_eq_true_eq, ne_eq, Classical.not_not] at *); first | (simp [kb, kb_0, kb_1, vr_n, vr_s, takF, may_1, may_2, havF_n, havF_s, shF_none, shF_some, *]; done) | (simp [kb, kb_0, kb_1, vr_n, vr_s, takF, may_1, may_2, havF_n, havF_s, shF_none, shF_some, *] <;> grind), rfl⟩) (by omega) (by omega)
  · skip
    have ma3 : a3 ∈ LP := hsp _ _ (by decide) o2
    refine J_topv (v' := .ref a3) (by first | rfl | (rw [o2]; rfl)) ?_
    refine J_astore (lv' := [(0, .ref (ka S 3 0)), (1, .ref a), (2, .int v), (3, .int 0), (4, .int 0), (5, .ref a3)]) (by decide) rfl dX0_canTake_22 ?_
    refine J_aload 5 rfl dX0_canTake_24 ?_
    refine J_ifnull dX0_canTake_26 ?_
    refine J_aload_n 1 rfl dX0_canTake_29 ?_
    refine J_aload 5 rfl dX0_canTake_30 ?_
    refine cv_0_25 (cells' := 0) (slots' := 0) dX0_canTake_32 (c_X5_canBreakInOn (by assumption) (by assumption)) (n20 (by assumption)) ⟨by decide, by decide⟩ rfl rfl (by decide) (by decide) (Nat.le_of_ble_eq_true rfl) (fun _ _ r215 => ?_) (fun _ _ h => h.elim)
    obtain ⟨rfl, rfl⟩ := r215
    refine J_eq (st' := [.int (kb (brkF I a a3))]) rfl rfl rfl ?_
    refine J_if_eq 42 (by decide) dX0_canTake_35 (fun c216 => ?_) (fun c216 => ?_)
    · skip
      refine J_iconst (v := 0) (by decide) dX0_canTake_42 ?_
      refine J_istore (lv' := [(0, .ref (ka S 3 0)), (1, .ref a), (2, .int v), (3, .int 0), (4, .int 0), (5, .ref a3), (6, .int 0)]) (by decide) rfl dX0_canTake_43 ?_
      refine J_aload 5 rfl dX0_canTake_45 ?_
      refine J_ifnull dX0_canTake_47 ?_
      refine J_iload 6 rfl dX0_canTake_50 ?_
      refine J_if_ne 66 (by decide) dX0_canTake_52 (fun c217 => ?_) (fun c217 => ?_)
      · exact absurd (by decide) c217
      refine J_aload 5 rfl dX0_canTake_55 ?_
      refine J_iload_n 2 rfl dX0_canTake_57 ?_
      refine cv_0_21 (cells' := 0) (slots' := 0) dX0_canTake_58 (c_X5_sharesStationWith (by assumption)) (n20 (by assumption)) ⟨by decide, by decide⟩ rfl rfl (by decide) (by decide) (Nat.le_of_ble_eq_true rfl) (fun _ _ r218 => ?_) (fun _ _ h => h.elim)
      obtain ⟨rfl, rfl⟩ := r218
      refine J_eq (st' := [.int (kb (shrF I a3 v))]) rfl rfl rfl ?_
      refine J_if_eq 66 (by decide) dX0_canTake_61 (fun c219 => ?_) (fun c219 => ?_)
      · skip
        refine J_iload 6 rfl dX0_canTake_66 ?_
        refine J_if_eq 82 (by decide) dX0_canTake_68 (fun c220 => ?_) (fun c220 => ?_)
        rotate_left
        · exact absurd (by decide) c220
        refine J_iinc (v := 1) (lv' := [(0, .ref (ka S 3 0)), (1, .ref a), (2, .int v), (3, .int 0), (4, .int 1), (5, .ref a3), (6, .int 0)]) 4 rfl (by decide) (by decide) rfl dX0_canTake_82 ?_
        refine J_goto 5 (by decide) dX0_canTake_85 ?_
        refine J_iload 4 rfl dX0_canTake_5 ?_
        refine J_aload_n 0 rfl dX0_canTake_7 ?_
        refine gf_0_11 (n3 _) dX0_canTake_8 ?_
        refine J_alen (v := 3) 5 (n14 _) rfl rfl rfl dX0_canTake_11 ?_
        refine J_icmp_ge 88 (by decide) dX0_canTake_12 (fun c222 => ?_) (fun c222 => ?_)
        · exact absurd c222 (by decide)
        refine J_aload_n 0 rfl dX0_canTake_15 ?_
        refine gf_0_11 (n3 _) dX0_canTake_16 ?_
        refine J_iload 4 rfl dX0_canTake_19 ?_
        refine J_aald 1 5 (n14 _) rfl rfl (vp_in_iff.mpr (by decide)) (by decide) dX0_canTake_21 ?_
        rcases opt_split (R 14 0 1) with o223 | ⟨a224, o223⟩
        · skip
          refine J_topv (v' := .null) (by first | rfl | (rw [o223]; rfl)) ?_
          refine J_astoreN (lv' := [(0, .ref (ka S 3 0)), (1, .ref a), (2, .int v), (3, .int 0), (4, .int 1), (5, .null), (6, .int 0)]) (by decide) rfl dX0_canTake_22 ?_
          refine J_aloadN 5 rfl dX0_canTake_24 ?_
          refine J_ifnullN 38 (by decide) dX0_canTake_26 ?_
          refine J_iconst (v := 1) (by decide) dX0_canTake_38 ?_
          refine J_goto 43 (by decide) dX0_canTake_39 ?_
          refine J_istore (lv' := [(0, .ref (ka S 3 0)), (1, .ref a), (2, .int v), (3, .int 0), (4, .int 1), (5, .null), (6, .int 1)]) (by decide) rfl dX0_canTake_43 ?_
          refine J_aloadN 5 rfl dX0_canTake_45 ?_
          refine J_ifnullN 66 (by decide) dX0_canTake_47 ?_
          refine J_iload 6 rfl dX0_canTake_66 ?_
          refine J_if_eq 82 (by decide) dX0_canTake_68 (fun c225 => ?_) (fun c225 => ?_)
          · exact absurd c225 (by decide)
          refine J_aload_n 1 rfl dX0_canTake_71 ?_
          refine J_iload 4 rfl dX0_canTake_72 ?_
          refine cv_0_29 (cells' := 0) (slots' := 0) dX0_canTake_74 (c_X5_mayHave (by assumption)) (n20 (by assumption)) ⟨by decide, by decide⟩ rfl rfl (by decide) (by decide) (Nat.le_of_ble_eq_true rfl) (fun _ _ r226 => ?_) (fun _ _ h => h.elim)
          obtain ⟨rfl, rfl⟩ := r226
          refine J_eq (st' := [.int (kb (mayF I a 1))]) rfl rfl rfl ?_
          refine J_topv (v' := .int 1) (by first | rfl | (rw [may_1]; rfl)) ?_
          refine J_if_eq 82 (by decide) dX0_canTake_77 (fun c227 => ?_) (fun c227 => ?_)
          · exact absurd c227 (by decide)
          refine J_iconst (v := 1) (by decide) dX0_canTake_80 ?_
          refine J_istore_n (lv' := [(0, .ref (ka S 3 0)), (1, .ref a), (2, .int v), (3, .int 1), (4, .int 1), (5, .null), (6, .int 1)]) (by decide) rfl dX0_canTake_81 ?_
          refine J_iinc (v := 2) (lv' := [(0, .ref (ka S 3 0)), (1, .ref a), (2, .int v), (3, .int 1), (4, .int 2), (5, .null), (6, .int 1)]) 4 rfl (by decide) (by decide) rfl dX0_canTake_82 ?_
          refine J_goto 5 (by decide) dX0_canTake_85 ?_
          refine J_iload 4 rfl dX0_canTake_5 ?_
          refine J_aload_n 0 rfl dX0_canTake_7 ?_
          refine gf_0_11 (n3 _) dX0_canTake_8 ?_
          refine J_alen (v := 3) 5 (n14 _) rfl rfl rfl dX0_canTake_11 ?_
          refine J_icmp_ge 88 (by decide) dX0_canTake_12 (fun c229 => ?_) (fun c229 => ?_)
          · exact absurd c229 (by decide)
          refine J_aload_n 0 rfl dX0_canTake_15 ?_
          refine gf_0_11 (n3 _) dX0_canTake_16 ?_
          refine J_iload 4 rfl dX0_canTake_19 ?_
          refine J_aald 2 5 (n14 _) rfl rfl (vp_in_iff.mpr (by decide)) (by decide) dX0_canTake_21 ?_
          rcases opt_split (R 14 0 2) with o230 | ⟨a231, o230⟩
          · skip
            refine J_topv (v' := .null) (by first | rfl | (rw [o230]; rfl)) ?_
            refine J_astoreN (lv' := [(0, .ref (ka S 3 0)), (1, .ref a), (2, .int v), (3, .int 1), (4, .int 2), (5, .null), (6, .int 1)]) (by decide) rfl dX0_canTake_22 ?_
            refine J_aloadN 5 rfl dX0_canTake_24 ?_
            refine J_ifnullN 38 (by decide) dX0_canTake_26 ?_
            refine J_iconst (v := 1) (by decide) dX0_canTake_38 ?_
            refine J_goto 43 (by decide) dX0_canTake_39 ?_
            refine J_istore (lv' := [(0, .ref (ka S 3 0)), (1, .ref a), (2, .int v), (3, .int 1), (4, .int 2), (5, .null), (6, .int 1)]) (by decide) rfl dX0_canTake_43 ?_
            refine J_aloadN 5 rfl dX0_canTake_45 ?_
            refine J_ifnullN 66 (by decide) dX0_canTake_47 ?_
            refine J_iload 6 rfl dX0_canTake_66 ?_
            refine J_if_eq 82 (by decide) dX0_canTake_68 (fun c232 => ?_) (fun c232 => ?_)
            · exact absurd c232 (by decide)
            refine J_aload_n 1 rfl dX0_canTake_71 ?_
            refine J_iload 4 rfl dX0_canTake_72 ?_
            refine cv_0_29 (cells' := 0) (slots' := 0) dX0_canTake_74 (c_X5_mayHave (by assumption)) (n20 (by assumption)) ⟨by decide, by decide⟩ rfl rfl (by decide) (by decide) (Nat.le_of_ble_eq_true rfl) (fun _ _ r233 => ?_) (fun _ _ h => h.elim)
            obtain ⟨rfl, rfl⟩ := r233
            refine J_eq (st' := [.int (kb (mayF I a 2))]) rfl rfl rfl ?_
            refine J_topv (v' := .int 1) (by first | rfl | (rw [may_2]; rfl)) ?_
            refine J_if_eq 82 (by decide) dX0_canTake_77 (fun c234 => ?_) (fun c234 => ?_)
            · exact absurd c234 (by decide)
            refine J_iconst (v := 1) (by decide) dX0_canTake_80 ?_
            refine J_istore_n (lv' := [(0, .ref (ka S 3 0)), (1, .ref a), (2, .int v), (3, .int 1), (4, .int 2), (5, .null), (6, .int 1)]) (by decide) rfl dX0_canTake_81 ?_
            refine J_iinc (v := 3) (lv' := [(0, .ref (ka S 3 0)), (1, .ref a), (2, .int v), (3, .int 1), (4, .int 3), (5, .null), (6, .int 1)]) 4 rfl (by decide) (by decide) rfl dX0_canTake_82 ?_
            refine J_goto 5 (by decide) dX0_canTake_85 ?_
            refine J_iload 4 rfl dX0_canTake_5 ?_
            refine J_aload_n 0 rfl dX0_canTake_7 ?_
            refine gf_0_11 (n3 _) dX0_canTake_8 ?_
            refine J_alen (v := 3) 5 (n14 _) rfl rfl rfl dX0_canTake_11 ?_
            refine J_icmp_ge 88 (by decide) dX0_canTake_12 (fun c236 => ?_) (fun c236 => ?_)
            rotate_left
            · exact absurd (by decide) c236
            refine J_iload_n 2 rfl dX0_canTake_88 ?_
            refine J_if_eq 100 (by decide) dX0_canTake_89 (fun c237 => ?_) (fun c237 => ?_)
            · skip
              refine J_iconst (v := 0) (by decide) dX0_canTake_100 ?_
              exact J_ireturn rfl (by first | rfl | assumption | simp [kb_nar]) dX0_canTake_101 (⟨by (try simp only [kb_0, kb_1, kb_n0, kb_n1, decide_eq_false_iff_not, decide_eq_true_eq, ne_eq, Classical.not_not] at *); first | (simp [kb, kb_0, kb_1, vr_n, vr_s, takF, may_1, may_2, havF_n, havF_s, shF_none, shF_some, *]; done) | (simp [kb, kb_0, kb_1, vr_n, vr_s, takF, may_1, may_2, havF_n, havF_s, shF_none, shF_some, *] <;> grind), rfl⟩) (by omega) (by omega)
            · skip
              refine J_iload_n 3 rfl dX0_canTake_92 ?_
              refine J_if_eq 100 (by decide) dX0_canTake_93 (fun c238 => ?_) (fun c238 => ?_)
              · exact absurd c238 (by decide)
              refine J_iconst (v := 1) (by decide) dX0_canTake_96 ?_
              refine J_goto 101 (by decide) dX0_canTake_97 ?_
              exact J_ireturn rfl (by first | rfl | assumption | simp [kb_nar]) dX0_canTake_101 (⟨by (try simp only [kb_0, kb_1, kb_n0, kb_n1, decide_eq_false_iff_not, decide_eq_true_eq, ne_eq, Classical.not_not] at *); first | (simp [kb, kb_0, kb_1, vr_n, vr_s, takF, may_1, may_2, havF_n, havF_s, shF_none, shF_some, *]; done) | (simp [kb, kb_0, kb_1, vr_n, vr_s, takF, may_1, may_2, havF_n, havF_s, shF_none, shF_some, *] <;> grind), rfl⟩) (by omega) (by omega)
          · skip
            have ma231 : a231 ∈ LP := hsp _ _ (by decide) o230
            refine J_topv (v' := .ref a231) (by first | rfl | (rw [o230]; rfl)) ?_
            refine J_astore (lv' := [(0, .ref (ka S 3 0)), (1, .ref a), (2, .int v), (3, .int 1), (4, .int 2), (5, .ref a231), (6, .int 1)]) (by decide) rfl dX0_canTake_22 ?_
            refine J_aload 5 rfl dX0_canTake_24 ?_
            refine J_ifnull dX0_canTake_26 ?_
            refine J_aload_n 1 rfl dX0_canTake_29 ?_
            refine J_aload 5 rfl dX0_canTake_30 ?_
            refine cv_0_25 (cells' := 0) (slots' := 0) dX0_canTake_32 (c_X5_canBreakInOn (by assumption) (by assumption)) (n20 (by assumption)) ⟨by decide, by decide⟩ rfl rfl (by decide) (by decide) (Nat.le_of_ble_eq_true rfl) (fun _ _ r239 => ?_) (fun _ _ h => h.elim)
            obtain ⟨rfl, rfl⟩ := r239
            refine J_eq (st' := [.int (kb (brkF I a a231))]) rfl rfl rfl ?_
            refine J_if_eq 42 (by decide) dX0_canTake_35 (fun c240 => ?_) (fun c240 => ?_)
            · skip
              refine J_iconst (v := 0) (by decide) dX0_canTake_42 ?_
              refine J_istore (lv' := [(0, .ref (ka S 3 0)), (1, .ref a), (2, .int v), (3, .int 1), (4, .int 2), (5, .ref a231), (6, .int 0)]) (by decide) rfl dX0_canTake_43 ?_
              refine J_aload 5 rfl dX0_canTake_45 ?_
              refine J_ifnull dX0_canTake_47 ?_
              refine J_iload 6 rfl dX0_canTake_50 ?_
              refine J_if_ne 66 (by decide) dX0_canTake_52 (fun c241 => ?_) (fun c241 => ?_)
              · exact absurd (by decide) c241
              refine J_aload 5 rfl dX0_canTake_55 ?_
              refine J_iload_n 2 rfl dX0_canTake_57 ?_
              refine cv_0_21 (cells' := 0) (slots' := 0) dX0_canTake_58 (c_X5_sharesStationWith (by assumption)) (n20 (by assumption)) ⟨by decide, by decide⟩ rfl rfl (by decide) (by decide) (Nat.le_of_ble_eq_true rfl) (fun _ _ r242 => ?_) (fun _ _ h => h.elim)
              obtain ⟨rfl, rfl⟩ := r242
              refine J_eq (st' := [.int (kb (shrF I a231 v))]) rfl rfl rfl ?_
              refine J_if_eq 66 (by decide) dX0_canTake_61 (fun c243 => ?_) (fun c243 => ?_)
              · skip
                refine J_iload 6 rfl dX0_canTake_66 ?_
                refine J_if_eq 82 (by decide) dX0_canTake_68 (fun c244 => ?_) (fun c244 => ?_)
                rotate_left
                · exact absurd (by decide) c244
                refine J_iinc (v := 3) (lv' := [(0, .ref (ka S 3 0)), (1, .ref a), (2, .int v), (3, .int 1), (4, .int 3), (5, .ref a231), (6, .int 0)]) 4 rfl (by decide) (by decide) rfl dX0_canTake_82 ?_
                refine J_goto 5 (by decide) dX0_canTake_85 ?_
                refine J_iload 4 rfl dX0_canTake_5 ?_
                refine J_aload_n 0 rfl dX0_canTake_7 ?_
                refine gf_0_11 (n3 _) dX0_canTake_8 ?_
                refine J_alen (v := 3) 5 (n14 _) rfl rfl rfl dX0_canTake_11 ?_
                refine J_icmp_ge 88 (by decide) dX0_canTake_12 (fun c246 => ?_) (fun c246 => ?_)
                rotate_left
                · exact absurd (by decide) c246
                refine J_iload_n 2 rfl dX0_canTake_88 ?_
                refine J_if_eq 100 (by decide) dX0_canTake_89 (fun c247 => ?_) (fun c247 => ?_)
                · skip
                  refine J_iconst (v := 0) (by decide) dX0_canTake_100 ?_
                  exact J_ireturn rfl (by first | rfl | assumption | simp [kb_nar]) dX0_canTake_101 (⟨by (try simp only [kb_0, kb_1, kb_n0, kb_n1, decide_eq_false_iff_not, decide_eq_true_eq, ne_eq, Classical.not_not] at *); first | (simp [kb, kb_0, kb_1, vr_n, vr_s, takF, may_1, may_2, havF_n, havF_s, shF_none, shF_some, *]; done) | (simp [kb, kb_0, kb_1, vr_n, vr_s, takF, may_1, may_2, havF_n, havF_s, shF_none, shF_some, *] <;> grind), rfl⟩) (by omega) (by omega)
                · skip
                  refine J_iload_n 3 rfl dX0_canTake_92 ?_
                  refine J_if_eq 100 (by decide) dX0_canTake_93 (fun c248 => ?_) (fun c248 => ?_)
                  · exact absurd c248 (by decide)
                  refine J_iconst (v := 1) (by decide) dX0_canTake_96 ?_
                  refine J_goto 101 (by decide) dX0_canTake_97 ?_
                  exact J_ireturn rfl (by first | rfl | assumption | simp [kb_nar]) dX0_canTake_101 (⟨by (try simp only [kb_0, kb_1, kb_n0, kb_n1, decide_eq_false_iff_not, decide_eq_true_eq, ne_eq, Classical.not_not] at *); first | (simp [kb, kb_0, kb_1, vr_n, vr_s, takF, may_1, may_2, havF_n, havF_s, shF_none, shF_some, *]; done) | (simp [kb, kb_0, kb_1, vr_n, vr_s, takF, may_1, may_2, havF_n, havF_s, shF_none, shF_some, *] <;> grind), rfl⟩) (by omega) (by omega)
              · skip
                refine J_iconst (v := 0) (by decide) dX0_canTake_64 ?_
                exact J_ireturn rfl (by first | rfl | assumption | simp [kb_nar]) dX0_canTake_65 (⟨by (try simp only [kb_0, kb_1, kb_n0, kb_n1, decide_eq_false_iff_not, decide_eq_true_eq, ne_eq, Classical.not_not] at *); first | (simp [kb, kb_0, kb_1, vr_n, vr_s, takF, may_1, may_2, havF_n, havF_s, shF_none, shF_some, *]; done) | (simp [kb, kb_0, kb_1, vr_n, vr_s, takF, may_1, may_2, havF_n, havF_s, shF_none, shF_some, *] <;> grind), rfl⟩) (by omega) (by omega)
            · skip
              refine J_iconst (v := 1) (by decide) dX0_canTake_38 ?_
              refine J_goto 43 (by decide) dX0_canTake_39 ?_
              refine J_istore (lv' := [(0, .ref (ka S 3 0)), (1, .ref a), (2, .int v), (3, .int 1), (4, .int 2), (5, .ref a231), (6, .int 1)]) (by decide) rfl dX0_canTake_43 ?_
              refine J_aload 5 rfl dX0_canTake_45 ?_
              refine J_ifnull dX0_canTake_47 ?_
              refine J_iload 6 rfl dX0_canTake_50 ?_
              refine J_if_ne 66 (by decide) dX0_canTake_52 (fun c249 => ?_) (fun c249 => ?_)
              rotate_left
              · exact absurd c249 (by decide)
              refine J_iload 6 rfl dX0_canTake_66 ?_
              refine J_if_eq 82 (by decide) dX0_canTake_68 (fun c250 => ?_) (fun c250 => ?_)
              · exact absurd c250 (by decide)
              refine J_aload_n 1 rfl dX0_canTake_71 ?_
              refine J_iload 4 rfl dX0_canTake_72 ?_
              refine cv_0_29 (cells' := 0) (slots' := 0) dX0_canTake_74 (c_X5_mayHave (by assumption)) (n20 (by assumption)) ⟨by decide, by decide⟩ rfl rfl (by decide) (by decide) (Nat.le_of_ble_eq_true rfl) (fun _ _ r251 => ?_) (fun _ _ h => h.elim)
              obtain ⟨rfl, rfl⟩ := r251
              refine J_eq (st' := [.int (kb (mayF I a 2))]) rfl rfl rfl ?_
              refine J_topv (v' := .int 1) (by first | rfl | (rw [may_2]; rfl)) ?_
              refine J_if_eq 82 (by decide) dX0_canTake_77 (fun c252 => ?_) (fun c252 => ?_)
              · exact absurd c252 (by decide)
              refine J_iconst (v := 1) (by decide) dX0_canTake_80 ?_
              refine J_istore_n (lv' := [(0, .ref (ka S 3 0)), (1, .ref a), (2, .int v), (3, .int 1), (4, .int 2), (5, .ref a231), (6, .int 1)]) (by decide) rfl dX0_canTake_81 ?_
              refine J_iinc (v := 3) (lv' := [(0, .ref (ka S 3 0)), (1, .ref a), (2, .int v), (3, .int 1), (4, .int 3), (5, .ref a231), (6, .int 1)]) 4 rfl (by decide) (by decide) rfl dX0_canTake_82 ?_
              refine J_goto 5 (by decide) dX0_canTake_85 ?_
              refine J_iload 4 rfl dX0_canTake_5 ?_
              refine J_aload_n 0 rfl dX0_canTake_7 ?_
              refine gf_0_11 (n3 _) dX0_canTake_8 ?_
              refine J_alen (v := 3) 5 (n14 _) rfl rfl rfl dX0_canTake_11 ?_
              refine J_icmp_ge 88 (by decide) dX0_canTake_12 (fun c254 => ?_) (fun c254 => ?_)
              rotate_left
              · exact absurd (by decide) c254
              refine J_iload_n 2 rfl dX0_canTake_88 ?_
              refine J_if_eq 100 (by decide) dX0_canTake_89 (fun c255 => ?_) (fun c255 => ?_)
              · skip
                refine J_iconst (v := 0) (by decide) dX0_canTake_100 ?_
                exact J_ireturn rfl (by first | rfl | assumption | simp [kb_nar]) dX0_canTake_101 (⟨by (try simp only [kb_0, kb_1, kb_n0, kb_n1, decide_eq_false_iff_not, decide_eq_true_eq, ne_eq, Classical.not_not] at *); first | (simp [kb, kb_0, kb_1, vr_n, vr_s, takF, may_1, may_2, havF_n, havF_s, shF_none, shF_some, *]; done) | (simp [kb, kb_0, kb_1, vr_n, vr_s, takF, may_1, may_2, havF_n, havF_s, shF_none, shF_some, *] <;> grind), rfl⟩) (by omega) (by omega)
              · skip
                refine J_iload_n 3 rfl dX0_canTake_92 ?_
                refine J_if_eq 100 (by decide) dX0_canTake_93 (fun c256 => ?_) (fun c256 => ?_)
                · exact absurd c256 (by decide)
                refine J_iconst (v := 1) (by decide) dX0_canTake_96 ?_
                refine J_goto 101 (by decide) dX0_canTake_97 ?_
                exact J_ireturn rfl (by first | rfl | assumption | simp [kb_nar]) dX0_canTake_101 (⟨by (try simp only [kb_0, kb_1, kb_n0, kb_n1, decide_eq_false_iff_not, decide_eq_true_eq, ne_eq, Classical.not_not] at *); first | (simp [kb, kb_0, kb_1, vr_n, vr_s, takF, may_1, may_2, havF_n, havF_s, shF_none, shF_some, *]; done) | (simp [kb, kb_0, kb_1, vr_n, vr_s, takF, may_1, may_2, havF_n, havF_s, shF_none, shF_some, *] <;> grind), rfl⟩) (by omega) (by omega)
        · skip
          have ma224 : a224 ∈ LP := hsp _ _ (by decide) o223
          refine J_topv (v' := .ref a224) (by first | rfl | (rw [o223]; rfl)) ?_
          refine J_astore (lv' := [(0, .ref (ka S 3 0)), (1, .ref a), (2, .int v), (3, .int 0), (4, .int 1), (5, .ref a224), (6, .int 0)]) (by decide) rfl dX0_canTake_22 ?_
          refine J_aload 5 rfl dX0_canTake_24 ?_
          refine J_ifnull dX0_canTake_26 ?_
          refine J_aload_n 1 rfl dX0_canTake_29 ?_
          refine J_aload 5 rfl dX0_canTake_30 ?_
          refine cv_0_25 (cells' := 0) (slots' := 0) dX0_canTake_32 (c_X5_canBreakInOn (by assumption) (by assumption)) (n20 (by assumption)) ⟨by decide, by decide⟩ rfl rfl (by decide) (by decide) (Nat.le_of_ble_eq_true rfl) (fun _ _ r257 => ?_) (fun _ _ h => h.elim)
          obtain ⟨rfl, rfl⟩ := r257
          refine J_eq (st' := [.int (kb (brkF I a a224))]) rfl rfl rfl ?_
          refine J_if_eq 42 (by decide) dX0_canTake_35 (fun c258 => ?_) (fun c258 => ?_)
          · skip
            refine J_iconst (v := 0) (by decide) dX0_canTake_42 ?_
            refine J_istore (lv' := [(0, .ref (ka S 3 0)), (1, .ref a), (2, .int v), (3, .int 0), (4, .int 1), (5, .ref a224), (6, .int 0)]) (by decide) rfl dX0_canTake_43 ?_
            refine J_aload 5 rfl dX0_canTake_45 ?_
            refine J_ifnull dX0_canTake_47 ?_
            refine J_iload 6 rfl dX0_canTake_50 ?_
            refine J_if_ne 66 (by decide) dX0_canTake_52 (fun c259 => ?_) (fun c259 => ?_)
            · exact absurd (by decide) c259
            refine J_aload 5 rfl dX0_canTake_55 ?_
            refine J_iload_n 2 rfl dX0_canTake_57 ?_
            refine cv_0_21 (cells' := 0) (slots' := 0) dX0_canTake_58 (c_X5_sharesStationWith (by assumption)) (n20 (by assumption)) ⟨by decide, by decide⟩ rfl rfl (by decide) (by decide) (Nat.le_of_ble_eq_true rfl) (fun _ _ r260 => ?_) (fun _ _ h => h.elim)
            obtain ⟨rfl, rfl⟩ := r260
            refine J_eq (st' := [.int (kb (shrF I a224 v))]) rfl rfl rfl ?_
            refine J_if_eq 66 (by decide) dX0_canTake_61 (fun c261 => ?_) (fun c261 => ?_)
            · skip
              refine J_iload 6 rfl dX0_canTake_66 ?_
              refine J_if_eq 82 (by decide) dX0_canTake_68 (fun c262 => ?_) (fun c262 => ?_)
              rotate_left
              · exact absurd (by decide) c262
              refine J_iinc (v := 2) (lv' := [(0, .ref (ka S 3 0)), (1, .ref a), (2, .int v), (3, .int 0), (4, .int 2), (5, .ref a224), (6, .int 0)]) 4 rfl (by decide) (by decide) rfl dX0_canTake_82 ?_
              refine J_goto 5 (by decide) dX0_canTake_85 ?_
              refine J_iload 4 rfl dX0_canTake_5 ?_
              refine J_aload_n 0 rfl dX0_canTake_7 ?_
              refine gf_0_11 (n3 _) dX0_canTake_8 ?_
              refine J_alen (v := 3) 5 (n14 _) rfl rfl rfl dX0_canTake_11 ?_
              refine J_icmp_ge 88 (by decide) dX0_canTake_12 (fun c264 => ?_) (fun c264 => ?_)
              · exact absurd c264 (by decide)
              refine J_aload_n 0 rfl dX0_canTake_15 ?_
              refine gf_0_11 (n3 _) dX0_canTake_16 ?_
              refine J_iload 4 rfl dX0_canTake_19 ?_
              refine J_aald 2 5 (n14 _) rfl rfl (vp_in_iff.mpr (by decide)) (by decide) dX0_canTake_21 ?_
              rcases opt_split (R 14 0 2) with o265 | ⟨a266, o265⟩
              · skip
                refine J_topv (v' := .null) (by first | rfl | (rw [o265]; rfl)) ?_
                refine J_astoreN (lv' := [(0, .ref (ka S 3 0)), (1, .ref a), (2, .int v), (3, .int 0), (4, .int 2), (5, .null), (6, .int 0)]) (by decide) rfl dX0_canTake_22 ?_
                refine J_aloadN 5 rfl dX0_canTake_24 ?_
                refine J_ifnullN 38 (by decide) dX0_canTake_26 ?_
                refine J_iconst (v := 1) (by decide) dX0_canTake_38 ?_
                refine J_goto 43 (by decide) dX0_canTake_39 ?_
                refine J_istore (lv' := [(0, .ref (ka S 3 0)), (1, .ref a), (2, .int v), (3, .int 0), (4, .int 2), (5, .null), (6, .int 1)]) (by decide) rfl dX0_canTake_43 ?_
                refine J_aloadN 5 rfl dX0_canTake_45 ?_
                refine J_ifnullN 66 (by decide) dX0_canTake_47 ?_
                refine J_iload 6 rfl dX0_canTake_66 ?_
                refine J_if_eq 82 (by decide) dX0_canTake_68 (fun c267 => ?_) (fun c267 => ?_)
                · exact absurd c267 (by decide)
                refine J_aload_n 1 rfl dX0_canTake_71 ?_
                refine J_iload 4 rfl dX0_canTake_72 ?_
                refine cv_0_29 (cells' := 0) (slots' := 0) dX0_canTake_74 (c_X5_mayHave (by assumption)) (n20 (by assumption)) ⟨by decide, by decide⟩ rfl rfl (by decide) (by decide) (Nat.le_of_ble_eq_true rfl) (fun _ _ r268 => ?_) (fun _ _ h => h.elim)
                obtain ⟨rfl, rfl⟩ := r268
                refine J_eq (st' := [.int (kb (mayF I a 2))]) rfl rfl rfl ?_
                refine J_topv (v' := .int 1) (by first | rfl | (rw [may_2]; rfl)) ?_
                refine J_if_eq 82 (by decide) dX0_canTake_77 (fun c269 => ?_) (fun c269 => ?_)
                · exact absurd c269 (by decide)
                refine J_iconst (v := 1) (by decide) dX0_canTake_80 ?_
                refine J_istore_n (lv' := [(0, .ref (ka S 3 0)), (1, .ref a), (2, .int v), (3, .int 1), (4, .int 2), (5, .null), (6, .int 1)]) (by decide) rfl dX0_canTake_81 ?_
                refine J_iinc (v := 3) (lv' := [(0, .ref (ka S 3 0)), (1, .ref a), (2, .int v), (3, .int 1), (4, .int 3), (5, .null), (6, .int 1)]) 4 rfl (by decide) (by decide) rfl dX0_canTake_82 ?_
                refine J_goto 5 (by decide) dX0_canTake_85 ?_
                refine J_iload 4 rfl dX0_canTake_5 ?_
                refine J_aload_n 0 rfl dX0_canTake_7 ?_
                refine gf_0_11 (n3 _) dX0_canTake_8 ?_
                refine J_alen (v := 3) 5 (n14 _) rfl rfl rfl dX0_canTake_11 ?_
                refine J_icmp_ge 88 (by decide) dX0_canTake_12 (fun c271 => ?_) (fun c271 => ?_)
                rotate_left
                · exact absurd (by decide) c271
                refine J_iload_n 2 rfl dX0_canTake_88 ?_
                refine J_if_eq 100 (by decide) dX0_canTake_89 (fun c272 => ?_) (fun c272 => ?_)
                · skip
                  refine J_iconst (v := 0) (by decide) dX0_canTake_100 ?_
                  exact J_ireturn rfl (by first | rfl | assumption | simp [kb_nar]) dX0_canTake_101 (⟨by (try simp only [kb_0, kb_1, kb_n0, kb_n1, decide_eq_false_iff_not, decide_eq_true_eq, ne_eq, Classical.not_not] at *); first | (simp [kb, kb_0, kb_1, vr_n, vr_s, takF, may_1, may_2, havF_n, havF_s, shF_none, shF_some, *]; done) | (simp [kb, kb_0, kb_1, vr_n, vr_s, takF, may_1, may_2, havF_n, havF_s, shF_none, shF_some, *] <;> grind), rfl⟩) (by omega) (by omega)
                · skip
                  refine J_iload_n 3 rfl dX0_canTake_92 ?_
                  refine J_if_eq 100 (by decide) dX0_canTake_93 (fun c273 => ?_) (fun c273 => ?_)
                  · exact absurd c273 (by decide)
                  refine J_iconst (v := 1) (by decide) dX0_canTake_96 ?_
                  refine J_goto 101 (by decide) dX0_canTake_97 ?_
                  exact J_ireturn rfl (by first | rfl | assumption | simp [kb_nar]) dX0_canTake_101 (⟨by (try simp only [kb_0, kb_1, kb_n0, kb_n1, decide_eq_false_iff_not, decide_eq_true_eq, ne_eq, Classical.not_not] at *); first | (simp [kb, kb_0, kb_1, vr_n, vr_s, takF, may_1, may_2, havF_n, havF_s, shF_none, shF_some, *]; done) | (simp [kb, kb_0, kb_1, vr_n, vr_s, takF, may_1, may_2, havF_n, havF_s, shF_none, shF_some, *] <;> grind), rfl⟩) (by omega) (by omega)
              · skip
                have ma266 : a266 ∈ LP := hsp _ _ (by decide) o265
                refine J_topv (v' := .ref a266) (by first | rfl | (rw [o265]; rfl)) ?_
                refine J_astore (lv' := [(0, .ref (ka S 3 0)), (1, .ref a), (2, .int v), (3, .int 0), (4, .int 2), (5, .ref a266), (6, .int 0)]) (by decide) rfl dX0_canTake_22 ?_
                refine J_aload 5 rfl dX0_canTake_24 ?_
                refine J_ifnull dX0_canTake_26 ?_
                refine J_aload_n 1 rfl dX0_canTake_29 ?_
                refine J_aload 5 rfl dX0_canTake_30 ?_
                refine cv_0_25 (cells' := 0) (slots' := 0) dX0_canTake_32 (c_X5_canBreakInOn (by assumption) (by assumption)) (n20 (by assumption)) ⟨by decide, by decide⟩ rfl rfl (by decide) (by decide) (Nat.le_of_ble_eq_true rfl) (fun _ _ r274 => ?_) (fun _ _ h => h.elim)
                obtain ⟨rfl, rfl⟩ := r274
                refine J_eq (st' := [.int (kb (brkF I a a266))]) rfl rfl rfl ?_
                refine J_if_eq 42 (by decide) dX0_canTake_35 (fun c275 => ?_) (fun c275 => ?_)
                · skip
                  refine J_iconst (v := 0) (by decide) dX0_canTake_42 ?_
                  refine J_istore (lv' := [(0, .ref (ka S 3 0)), (1, .ref a), (2, .int v), (3, .int 0), (4, .int 2), (5, .ref a266), (6, .int 0)]) (by decide) rfl dX0_canTake_43 ?_
                  refine J_aload 5 rfl dX0_canTake_45 ?_
                  refine J_ifnull dX0_canTake_47 ?_
                  refine J_iload 6 rfl dX0_canTake_50 ?_
                  refine J_if_ne 66 (by decide) dX0_canTake_52 (fun c276 => ?_) (fun c276 => ?_)
                  · exact absurd (by decide) c276
                  refine J_aload 5 rfl dX0_canTake_55 ?_
                  refine J_iload_n 2 rfl dX0_canTake_57 ?_
                  refine cv_0_21 (cells' := 0) (slots' := 0) dX0_canTake_58 (c_X5_sharesStationWith (by assumption)) (n20 (by assumption)) ⟨by decide, by decide⟩ rfl rfl (by decide) (by decide) (Nat.le_of_ble_eq_true rfl) (fun _ _ r277 => ?_) (fun _ _ h => h.elim)
                  obtain ⟨rfl, rfl⟩ := r277
                  refine J_eq (st' := [.int (kb (shrF I a266 v))]) rfl rfl rfl ?_
                  refine J_if_eq 66 (by decide) dX0_canTake_61 (fun c278 => ?_) (fun c278 => ?_)
                  · skip
                    refine J_iload 6 rfl dX0_canTake_66 ?_
                    refine J_if_eq 82 (by decide) dX0_canTake_68 (fun c279 => ?_) (fun c279 => ?_)
                    rotate_left
                    · exact absurd (by decide) c279
                    refine J_iinc (v := 3) (lv' := [(0, .ref (ka S 3 0)), (1, .ref a), (2, .int v), (3, .int 0), (4, .int 3), (5, .ref a266), (6, .int 0)]) 4 rfl (by decide) (by decide) rfl dX0_canTake_82 ?_
                    refine J_goto 5 (by decide) dX0_canTake_85 ?_
                    refine J_iload 4 rfl dX0_canTake_5 ?_
                    refine J_aload_n 0 rfl dX0_canTake_7 ?_
                    refine gf_0_11 (n3 _) dX0_canTake_8 ?_
                    refine J_alen (v := 3) 5 (n14 _) rfl rfl rfl dX0_canTake_11 ?_
                    refine J_icmp_ge 88 (by decide) dX0_canTake_12 (fun c281 => ?_) (fun c281 => ?_)
                    rotate_left
                    · exact absurd (by decide) c281
                    refine J_iload_n 2 rfl dX0_canTake_88 ?_
                    refine J_if_eq 100 (by decide) dX0_canTake_89 (fun c282 => ?_) (fun c282 => ?_)
                    · skip
                      refine J_iconst (v := 0) (by decide) dX0_canTake_100 ?_
                      exact J_ireturn rfl (by first | rfl | assumption | simp [kb_nar]) dX0_canTake_101 (⟨by (try simp only [kb_0, kb_1, kb_n0, kb_n1, decide_eq_false_iff_not, decide_eq_true_eq, ne_eq, Classical.not_not] at *); first | (simp [kb, kb_0, kb_1, vr_n, vr_s, takF, may_1, may_2, havF_n, havF_s, shF_none, shF_some, *]; done) | (simp [kb, kb_0, kb_1, vr_n, vr_s, takF, may_1, may_2, havF_n, havF_s, shF_none, shF_some, *] <;> grind), rfl⟩) (by omega) (by omega)
                    · skip
                      refine J_iload_n 3 rfl dX0_canTake_92 ?_
                      refine J_if_eq 100 (by decide) dX0_canTake_93 (fun c283 => ?_) (fun c283 => ?_)
                      rotate_left
                      · exact absurd (by decide) c283
                      refine J_iconst (v := 0) (by decide) dX0_canTake_100 ?_
                      exact J_ireturn rfl (by first | rfl | assumption | simp [kb_nar]) dX0_canTake_101 (⟨by (try simp only [kb_0, kb_1, kb_n0, kb_n1, decide_eq_false_iff_not, decide_eq_true_eq, ne_eq, Classical.not_not] at *); first | (simp [kb, kb_0, kb_1, vr_n, vr_s, takF, may_1, may_2, havF_n, havF_s, shF_none, shF_some, *]; done) | (simp [kb, kb_0, kb_1, vr_n, vr_s, takF, may_1, may_2, havF_n, havF_s, shF_none, shF_some, *] <;> grind), rfl⟩) (by omega) (by omega)
                  · skip
                    refine J_iconst (v := 0) (by decide) dX0_canTake_64 ?_
                    exact J_ireturn rfl (by first | rfl | assumption | simp [kb_nar]) dX0_canTake_65 (⟨by (try simp only [kb_0, kb_1, kb_n0, kb_n1, decide_eq_false_iff_not, decide_eq_true_eq, ne_eq, Classical.not_not] at *); first | (simp [kb, kb_0, kb_1, vr_n, vr_s, takF, may_1, may_2, havF_n, havF_s, shF_none, shF_some, *]; done) | (simp [kb, kb_0, kb_1, vr_n, vr_s, takF, may_1, may_2, havF_n, havF_s, shF_none, shF_some, *] <;> grind), rfl⟩) (by omega) (by omega)
                · skip
                  refine J_iconst (v := 1) (by decide) dX0_canTake_38 ?_
                  refine J_goto 43 (by decide) dX0_canTake_39 ?_
                  refine J_istore (lv' := [(0, .ref (ka S 3 0)), (1, .ref a), (2, .int v), (3, .int 0), (4, .int 2), (5, .ref a266), (6, .int 1)]) (by decide) rfl dX0_canTake_43 ?_
                  refine J_aload 5 rfl dX0_canTake_45 ?_
                  refine J_ifnull dX0_canTake_47 ?_
                  refine J_iload 6 rfl dX0_canTake_50 ?_
                  refine J_if_ne 66 (by decide) dX0_canTake_52 (fun c284 => ?_) (fun c284 => ?_)
                  rotate_left
                  · exact absurd c284 (by decide)
                  refine J_iload 6 rfl dX0_canTake_66 ?_
                  refine J_if_eq 82 (by decide) dX0_canTake_68 (fun c285 => ?_) (fun c285 => ?_)
                  · exact absurd c285 (by decide)
                  refine J_aload_n 1 rfl dX0_canTake_71 ?_
                  refine J_iload 4 rfl dX0_canTake_72 ?_
                  refine cv_0_29 (cells' := 0) (slots' := 0) dX0_canTake_74 (c_X5_mayHave (by assumption)) (n20 (by assumption)) ⟨by decide, by decide⟩ rfl rfl (by decide) (by decide) (Nat.le_of_ble_eq_true rfl) (fun _ _ r286 => ?_) (fun _ _ h => h.elim)
                  obtain ⟨rfl, rfl⟩ := r286
                  refine J_eq (st' := [.int (kb (mayF I a 2))]) rfl rfl rfl ?_
                  refine J_topv (v' := .int 1) (by first | rfl | (rw [may_2]; rfl)) ?_
                  refine J_if_eq 82 (by decide) dX0_canTake_77 (fun c287 => ?_) (fun c287 => ?_)
                  · exact absurd c287 (by decide)
                  refine J_iconst (v := 1) (by decide) dX0_canTake_80 ?_
                  refine J_istore_n (lv' := [(0, .ref (ka S 3 0)), (1, .ref a), (2, .int v), (3, .int 1), (4, .int 2), (5, .ref a266), (6, .int 1)]) (by decide) rfl dX0_canTake_81 ?_
                  refine J_iinc (v := 3) (lv' := [(0, .ref (ka S 3 0)), (1, .ref a), (2, .int v), (3, .int 1), (4, .int 3), (5, .ref a266), (6, .int 1)]) 4 rfl (by decide) (by decide) rfl dX0_canTake_82 ?_
                  refine J_goto 5 (by decide) dX0_canTake_85 ?_
                  refine J_iload 4 rfl dX0_canTake_5 ?_
                  refine J_aload_n 0 rfl dX0_canTake_7 ?_
                  refine gf_0_11 (n3 _) dX0_canTake_8 ?_
                  refine J_alen (v := 3) 5 (n14 _) rfl rfl rfl dX0_canTake_11 ?_
                  refine J_icmp_ge 88 (by decide) dX0_canTake_12 (fun c289 => ?_) (fun c289 => ?_)
                  rotate_left
                  · exact absurd (by decide) c289
                  refine J_iload_n 2 rfl dX0_canTake_88 ?_
                  refine J_if_eq 100 (by decide) dX0_canTake_89 (fun c290 => ?_) (fun c290 => ?_)
                  · skip
                    refine J_iconst (v := 0) (by decide) dX0_canTake_100 ?_
                    exact J_ireturn rfl (by first | rfl | assumption | simp [kb_nar]) dX0_canTake_101 (⟨by (try simp only [kb_0, kb_1, kb_n0, kb_n1, decide_eq_false_iff_not, decide_eq_true_eq, ne_eq, Classical.not_not] at *); first | (simp [kb, kb_0, kb_1, vr_n, vr_s, takF, may_1, may_2, havF_n, havF_s, shF_none, shF_some, *]; done) | (simp [kb, kb_0, kb_1, vr_n, vr_s, takF, may_1, may_2, havF_n, havF_s, shF_none, shF_some, *] <;> grind), rfl⟩) (by omega) (by omega)
                  · skip
                    refine J_iload_n 3 rfl dX0_canTake_92 ?_
                    refine J_if_eq 100 (by decide) dX0_canTake_93 (fun c291 => ?_) (fun c291 => ?_)
                    · exact absurd c291 (by decide)
                    refine J_iconst (v := 1) (by decide) dX0_canTake_96 ?_
                    refine J_goto 101 (by decide) dX0_canTake_97 ?_
                    exact J_ireturn rfl (by first | rfl | assumption | simp [kb_nar]) dX0_canTake_101 (⟨by (try simp only [kb_0, kb_1, kb_n0, kb_n1, decide_eq_false_iff_not, decide_eq_true_eq, ne_eq, Classical.not_not] at *); first | (simp [kb, kb_0, kb_1, vr_n, vr_s, takF, may_1, may_2, havF_n, havF_s, shF_none, shF_some, *]; done) | (simp [kb, kb_0, kb_1, vr_n, vr_s, takF, may_1, may_2, havF_n, havF_s, shF_none, shF_some, *] <;> grind), rfl⟩) (by omega) (by omega)
            · skip
              refine J_iconst (v := 0) (by decide) dX0_canTake_64 ?_
              exact J_ireturn rfl (by first | rfl | assumption | simp [kb_nar]) dX0_canTake_65 (⟨by (try simp only [kb_0, kb_1, kb_n0, kb_n1, decide_eq_false_iff_not, decide_eq_true_eq, ne_eq, Classical.not_not] at *); first | (simp [kb, kb_0, kb_1, vr_n, vr_s, takF, may_1, may_2, havF_n, havF_s, shF_none, shF_some, *]; done) | (simp [kb, kb_0, kb_1, vr_n, vr_s, takF, may_1, may_2, havF_n, havF_s, shF_none, shF_some, *] <;> grind), rfl⟩) (by omega) (by omega)
          · skip
            refine J_iconst (v := 1) (by decide) dX0_canTake_38 ?_
            refine J_goto 43 (by decide) dX0_canTake_39 ?_
            refine J_istore (lv' := [(0, .ref (ka S 3 0)), (1, .ref a), (2, .int v), (3, .int 0), (4, .int 1), (5, .ref a224), (6, .int 1)]) (by decide) rfl dX0_canTake_43 ?_
            refine J_aload 5 rfl dX0_canTake_45 ?_
            refine J_ifnull dX0_canTake_47 ?_
            refine J_iload 6 rfl dX0_canTake_50 ?_
            refine J_if_ne 66 (by decide) dX0_canTake_52 (fun c292 => ?_) (fun c292 => ?_)
            rotate_left
            · exact absurd c292 (by decide)
            refine J_iload 6 rfl dX0_canTake_66 ?_
            refine J_if_eq 82 (by decide) dX0_canTake_68 (fun c293 => ?_) (fun c293 => ?_)
            · exact absurd c293 (by decide)
            refine J_aload_n 1 rfl dX0_canTake_71 ?_
            refine J_iload 4 rfl dX0_canTake_72 ?_
            refine cv_0_29 (cells' := 0) (slots' := 0) dX0_canTake_74 (c_X5_mayHave (by assumption)) (n20 (by assumption)) ⟨by decide, by decide⟩ rfl rfl (by decide) (by decide) (Nat.le_of_ble_eq_true rfl) (fun _ _ r294 => ?_) (fun _ _ h => h.elim)
            obtain ⟨rfl, rfl⟩ := r294
            refine J_eq (st' := [.int (kb (mayF I a 1))]) rfl rfl rfl ?_
            refine J_topv (v' := .int 1) (by first | rfl | (rw [may_1]; rfl)) ?_
            refine J_if_eq 82 (by decide) dX0_canTake_77 (fun c295 => ?_) (fun c295 => ?_)
            · exact absurd c295 (by decide)
            refine J_iconst (v := 1) (by decide) dX0_canTake_80 ?_
            refine J_istore_n (lv' := [(0, .ref (ka S 3 0)), (1, .ref a), (2, .int v), (3, .int 1), (4, .int 1), (5, .ref a224), (6, .int 1)]) (by decide) rfl dX0_canTake_81 ?_
            refine J_iinc (v := 2) (lv' := [(0, .ref (ka S 3 0)), (1, .ref a), (2, .int v), (3, .int 1), (4, .int 2), (5, .ref a224), (6, .int 1)]) 4 rfl (by decide) (by decide) rfl dX0_canTake_82 ?_
            refine J_goto 5 (by decide) dX0_canTake_85 ?_
            refine J_iload 4 rfl dX0_canTake_5 ?_
            refine J_aload_n 0 rfl dX0_canTake_7 ?_
            refine gf_0_11 (n3 _) dX0_canTake_8 ?_
            refine J_alen (v := 3) 5 (n14 _) rfl rfl rfl dX0_canTake_11 ?_
            refine J_icmp_ge 88 (by decide) dX0_canTake_12 (fun c297 => ?_) (fun c297 => ?_)
            · exact absurd c297 (by decide)
            refine J_aload_n 0 rfl dX0_canTake_15 ?_
            refine gf_0_11 (n3 _) dX0_canTake_16 ?_
            refine J_iload 4 rfl dX0_canTake_19 ?_
            refine J_aald 2 5 (n14 _) rfl rfl (vp_in_iff.mpr (by decide)) (by decide) dX0_canTake_21 ?_
            rcases opt_split (R 14 0 2) with o298 | ⟨a299, o298⟩
            · skip
              refine J_topv (v' := .null) (by first | rfl | (rw [o298]; rfl)) ?_
              refine J_astoreN (lv' := [(0, .ref (ka S 3 0)), (1, .ref a), (2, .int v), (3, .int 1), (4, .int 2), (5, .null), (6, .int 1)]) (by decide) rfl dX0_canTake_22 ?_
              refine J_aloadN 5 rfl dX0_canTake_24 ?_
              refine J_ifnullN 38 (by decide) dX0_canTake_26 ?_
              refine J_iconst (v := 1) (by decide) dX0_canTake_38 ?_
              refine J_goto 43 (by decide) dX0_canTake_39 ?_
              refine J_istore (lv' := [(0, .ref (ka S 3 0)), (1, .ref a), (2, .int v), (3, .int 1), (4, .int 2), (5, .null), (6, .int 1)]) (by decide) rfl dX0_canTake_43 ?_
              refine J_aloadN 5 rfl dX0_canTake_45 ?_
              refine J_ifnullN 66 (by decide) dX0_canTake_47 ?_
              refine J_iload 6 rfl dX0_canTake_66 ?_
              refine J_if_eq 82 (by decide) dX0_canTake_68 (fun c300 => ?_) (fun c300 => ?_)
              · exact absurd c300 (by decide)
              refine J_aload_n 1 rfl dX0_canTake_71 ?_
              refine J_iload 4 rfl dX0_canTake_72 ?_
              refine cv_0_29 (cells' := 0) (slots' := 0) dX0_canTake_74 (c_X5_mayHave (by assumption)) (n20 (by assumption)) ⟨by decide, by decide⟩ rfl rfl (by decide) (by decide) (Nat.le_of_ble_eq_true rfl) (fun _ _ r301 => ?_) (fun _ _ h => h.elim)
              obtain ⟨rfl, rfl⟩ := r301
              refine J_eq (st' := [.int (kb (mayF I a 2))]) rfl rfl rfl ?_
              refine J_topv (v' := .int 1) (by first | rfl | (rw [may_2]; rfl)) ?_
              refine J_if_eq 82 (by decide) dX0_canTake_77 (fun c302 => ?_) (fun c302 => ?_)
              · exact absurd c302 (by decide)
              refine J_iconst (v := 1) (by decide) dX0_canTake_80 ?_
              refine J_istore_n (lv' := [(0, .ref (ka S 3 0)), (1, .ref a), (2, .int v), (3, .int 1), (4, .int 2), (5, .null), (6, .int 1)]) (by decide) rfl dX0_canTake_81 ?_
              refine J_iinc (v := 3) (lv' := [(0, .ref (ka S 3 0)), (1, .ref a), (2, .int v), (3, .int 1), (4, .int 3), (5, .null), (6, .int 1)]) 4 rfl (by decide) (by decide) rfl dX0_canTake_82 ?_
              refine J_goto 5 (by decide) dX0_canTake_85 ?_
              refine J_iload 4 rfl dX0_canTake_5 ?_
              refine J_aload_n 0 rfl dX0_canTake_7 ?_
              refine gf_0_11 (n3 _) dX0_canTake_8 ?_
              refine J_alen (v := 3) 5 (n14 _) rfl rfl rfl dX0_canTake_11 ?_
              refine J_icmp_ge 88 (by decide) dX0_canTake_12 (fun c304 => ?_) (fun c304 => ?_)
              rotate_left
              · exact absurd (by decide) c304
              refine J_iload_n 2 rfl dX0_canTake_88 ?_
              refine J_if_eq 100 (by decide) dX0_canTake_89 (fun c305 => ?_) (fun c305 => ?_)
              · skip
                refine J_iconst (v := 0) (by decide) dX0_canTake_100 ?_
                exact J_ireturn rfl (by first | rfl | assumption | simp [kb_nar]) dX0_canTake_101 (⟨by (try simp only [kb_0, kb_1, kb_n0, kb_n1, decide_eq_false_iff_not, decide_eq_true_eq, ne_eq, Classical.not_not] at *); first | (simp [kb, kb_0, kb_1, vr_n, vr_s, takF, may_1, may_2, havF_n, havF_s, shF_none, shF_some, *]; done) | (simp [kb, kb_0, kb_1, vr_n, vr_s, takF, may_1, may_2, havF_n, havF_s, shF_none, shF_some, *] <;> grind), rfl⟩) (by omega) (by omega)
              · skip
                refine J_iload_n 3 rfl dX0_canTake_92 ?_
                refine J_if_eq 100 (by decide) dX0_canTake_93 (fun c306 => ?_) (fun c306 => ?_)
                · exact absurd c306 (by decide)
                refine J_iconst (v := 1) (by decide) dX0_canTake_96 ?_
                refine J_goto 101 (by decide) dX0_canTake_97 ?_
                exact J_ireturn rfl (by first | rfl | assumption | simp [kb_nar]) dX0_canTake_101 (⟨by (try simp only [kb_0, kb_1, kb_n0, kb_n1, decide_eq_false_iff_not, decide_eq_true_eq, ne_eq, Classical.not_not] at *); first | (simp [kb, kb_0, kb_1, vr_n, vr_s, takF, may_1, may_2, havF_n, havF_s, shF_none, shF_some, *]; done) | (simp [kb, kb_0, kb_1, vr_n, vr_s, takF, may_1, may_2, havF_n, havF_s, shF_none, shF_some, *] <;> grind), rfl⟩) (by omega) (by omega)
            · skip
              have ma299 : a299 ∈ LP := hsp _ _ (by decide) o298
              refine J_topv (v' := .ref a299) (by first | rfl | (rw [o298]; rfl)) ?_
              refine J_astore (lv' := [(0, .ref (ka S 3 0)), (1, .ref a), (2, .int v), (3, .int 1), (4, .int 2), (5, .ref a299), (6, .int 1)]) (by decide) rfl dX0_canTake_22 ?_
              refine J_aload 5 rfl dX0_canTake_24 ?_
              refine J_ifnull dX0_canTake_26 ?_
              refine J_aload_n 1 rfl dX0_canTake_29 ?_
              refine J_aload 5 rfl dX0_canTake_30 ?_
              refine cv_0_25 (cells' := 0) (slots' := 0) dX0_canTake_32 (c_X5_canBreakInOn (by assumption) (by assumption)) (n20 (by assumption)) ⟨by decide, by decide⟩ rfl rfl (by decide) (by decide) (Nat.le_of_ble_eq_true rfl) (fun _ _ r307 => ?_) (fun _ _ h => h.elim)
              obtain ⟨rfl, rfl⟩ := r307
              refine J_eq (st' := [.int (kb (brkF I a a299))]) rfl rfl rfl ?_
              refine J_if_eq 42 (by decide) dX0_canTake_35 (fun c308 => ?_) (fun c308 => ?_)
              · skip
                refine J_iconst (v := 0) (by decide) dX0_canTake_42 ?_
                refine J_istore (lv' := [(0, .ref (ka S 3 0)), (1, .ref a), (2, .int v), (3, .int 1), (4, .int 2), (5, .ref a299), (6, .int 0)]) (by decide) rfl dX0_canTake_43 ?_
                refine J_aload 5 rfl dX0_canTake_45 ?_
                refine J_ifnull dX0_canTake_47 ?_
                refine J_iload 6 rfl dX0_canTake_50 ?_
                refine J_if_ne 66 (by decide) dX0_canTake_52 (fun c309 => ?_) (fun c309 => ?_)
                · exact absurd (by decide) c309
                refine J_aload 5 rfl dX0_canTake_55 ?_
                refine J_iload_n 2 rfl dX0_canTake_57 ?_
                refine cv_0_21 (cells' := 0) (slots' := 0) dX0_canTake_58 (c_X5_sharesStationWith (by assumption)) (n20 (by assumption)) ⟨by decide, by decide⟩ rfl rfl (by decide) (by decide) (Nat.le_of_ble_eq_true rfl) (fun _ _ r310 => ?_) (fun _ _ h => h.elim)
                obtain ⟨rfl, rfl⟩ := r310
                refine J_eq (st' := [.int (kb (shrF I a299 v))]) rfl rfl rfl ?_
                refine J_if_eq 66 (by decide) dX0_canTake_61 (fun c311 => ?_) (fun c311 => ?_)
                · skip
                  refine J_iload 6 rfl dX0_canTake_66 ?_
                  refine J_if_eq 82 (by decide) dX0_canTake_68 (fun c312 => ?_) (fun c312 => ?_)
                  rotate_left
                  · exact absurd (by decide) c312
                  refine J_iinc (v := 3) (lv' := [(0, .ref (ka S 3 0)), (1, .ref a), (2, .int v), (3, .int 1), (4, .int 3), (5, .ref a299), (6, .int 0)]) 4 rfl (by decide) (by decide) rfl dX0_canTake_82 ?_
                  refine J_goto 5 (by decide) dX0_canTake_85 ?_
                  refine J_iload 4 rfl dX0_canTake_5 ?_
                  refine J_aload_n 0 rfl dX0_canTake_7 ?_
                  refine gf_0_11 (n3 _) dX0_canTake_8 ?_
                  refine J_alen (v := 3) 5 (n14 _) rfl rfl rfl dX0_canTake_11 ?_
                  refine J_icmp_ge 88 (by decide) dX0_canTake_12 (fun c314 => ?_) (fun c314 => ?_)
                  rotate_left
                  · exact absurd (by decide) c314
                  refine J_iload_n 2 rfl dX0_canTake_88 ?_
                  refine J_if_eq 100 (by decide) dX0_canTake_89 (fun c315 => ?_) (fun c315 => ?_)
                  · skip
                    refine J_iconst (v := 0) (by decide) dX0_canTake_100 ?_
                    exact J_ireturn rfl (by first | rfl | assumption | simp [kb_nar]) dX0_canTake_101 (⟨by (try simp only [kb_0, kb_1, kb_n0, kb_n1, decide_eq_false_iff_not, decide_eq_true_eq, ne_eq, Classical.not_not] at *); first | (simp [kb, kb_0, kb_1, vr_n, vr_s, takF, may_1, may_2, havF_n, havF_s, shF_none, shF_some, *]; done) | (simp [kb, kb_0, kb_1, vr_n, vr_s, takF, may_1, may_2, havF_n, havF_s, shF_none, shF_some, *] <;> grind), rfl⟩) (by omega) (by omega)
                  · skip
                    refine J_iload_n 3 rfl dX0_canTake_92 ?_
                    refine J_if_eq 100 (by decide) dX0_canTake_93 (fun c316 => ?_) (fun c316 => ?_)
                    · exact absurd c316 (by decide)
                    refine J_iconst (v := 1) (by decide) dX0_canTake_96 ?_
                    refine J_goto 101 (by decide) dX0_canTake_97 ?_
                    exact J_ireturn rfl (by first | rfl | assumption | simp [kb_nar]) dX0_canTake_101 (⟨by (try simp only [kb_0, kb_1, kb_n0, kb_n1, decide_eq_false_iff_not, decide_eq_true_eq, ne_eq, Classical.not_not] at *); first | (simp [kb, kb_0, kb_1, vr_n, vr_s, takF, may_1, may_2, havF_n, havF_s, shF_none, shF_some, *]; done) | (simp [kb, kb_0, kb_1, vr_n, vr_s, takF, may_1, may_2, havF_n, havF_s, shF_none, shF_some, *] <;> grind), rfl⟩) (by omega) (by omega)
                · skip
                  refine J_iconst (v := 0) (by decide) dX0_canTake_64 ?_
                  exact J_ireturn rfl (by first | rfl | assumption | simp [kb_nar]) dX0_canTake_65 (⟨by (try simp only [kb_0, kb_1, kb_n0, kb_n1, decide_eq_false_iff_not, decide_eq_true_eq, ne_eq, Classical.not_not] at *); first | (simp [kb, kb_0, kb_1, vr_n, vr_s, takF, may_1, may_2, havF_n, havF_s, shF_none, shF_some, *]; done) | (simp [kb, kb_0, kb_1, vr_n, vr_s, takF, may_1, may_2, havF_n, havF_s, shF_none, shF_some, *] <;> grind), rfl⟩) (by omega) (by omega)
              · skip
                refine J_iconst (v := 1) (by decide) dX0_canTake_38 ?_
                refine J_goto 43 (by decide) dX0_canTake_39 ?_
                refine J_istore (lv' := [(0, .ref (ka S 3 0)), (1, .ref a), (2, .int v), (3, .int 1), (4, .int 2), (5, .ref a299), (6, .int 1)]) (by decide) rfl dX0_canTake_43 ?_
                refine J_aload 5 rfl dX0_canTake_45 ?_
                refine J_ifnull dX0_canTake_47 ?_
                refine J_iload 6 rfl dX0_canTake_50 ?_
                refine J_if_ne 66 (by decide) dX0_canTake_52 (fun c317 => ?_) (fun c317 => ?_)
                rotate_left
                · exact absurd c317 (by decide)
                refine J_iload 6 rfl dX0_canTake_66 ?_
                refine J_if_eq 82 (by decide) dX0_canTake_68 (fun c318 => ?_) (fun c318 => ?_)
                · exact absurd c318 (by decide)
                refine J_aload_n 1 rfl dX0_canTake_71 ?_
                refine J_iload 4 rfl dX0_canTake_72 ?_
                refine cv_0_29 (cells' := 0) (slots' := 0) dX0_canTake_74 (c_X5_mayHave (by assumption)) (n20 (by assumption)) ⟨by decide, by decide⟩ rfl rfl (by decide) (by decide) (Nat.le_of_ble_eq_true rfl) (fun _ _ r319 => ?_) (fun _ _ h => h.elim)
                obtain ⟨rfl, rfl⟩ := r319
                refine J_eq (st' := [.int (kb (mayF I a 2))]) rfl rfl rfl ?_
                refine J_topv (v' := .int 1) (by first | rfl | (rw [may_2]; rfl)) ?_
                refine J_if_eq 82 (by decide) dX0_canTake_77 (fun c320 => ?_) (fun c320 => ?_)
                · exact absurd c320 (by decide)
                refine J_iconst (v := 1) (by decide) dX0_canTake_80 ?_
                refine J_istore_n (lv' := [(0, .ref (ka S 3 0)), (1, .ref a), (2, .int v), (3, .int 1), (4, .int 2), (5, .ref a299), (6, .int 1)]) (by decide) rfl dX0_canTake_81 ?_
                refine J_iinc (v := 3) (lv' := [(0, .ref (ka S 3 0)), (1, .ref a), (2, .int v), (3, .int 1), (4, .int 3), (5, .ref a299), (6, .int 1)]) 4 rfl (by decide) (by decide) rfl dX0_canTake_82 ?_
                refine J_goto 5 (by decide) dX0_canTake_85 ?_
                refine J_iload 4 rfl dX0_canTake_5 ?_
                refine J_aload_n 0 rfl dX0_canTake_7 ?_
                refine gf_0_11 (n3 _) dX0_canTake_8 ?_
                refine J_alen (v := 3) 5 (n14 _) rfl rfl rfl dX0_canTake_11 ?_
                refine J_icmp_ge 88 (by decide) dX0_canTake_12 (fun c322 => ?_) (fun c322 => ?_)
                rotate_left
                · exact absurd (by decide) c322
                refine J_iload_n 2 rfl dX0_canTake_88 ?_
                refine J_if_eq 100 (by decide) dX0_canTake_89 (fun c323 => ?_) (fun c323 => ?_)
                · skip
                  refine J_iconst (v := 0) (by decide) dX0_canTake_100 ?_
                  exact J_ireturn rfl (by first | rfl | assumption | simp [kb_nar]) dX0_canTake_101 (⟨by (try simp only [kb_0, kb_1, kb_n0, kb_n1, decide_eq_false_iff_not, decide_eq_true_eq, ne_eq, Classical.not_not] at *); first | (simp [kb, kb_0, kb_1, vr_n, vr_s, takF, may_1, may_2, havF_n, havF_s, shF_none, shF_some, *]; done) | (simp [kb, kb_0, kb_1, vr_n, vr_s, takF, may_1, may_2, havF_n, havF_s, shF_none, shF_some, *] <;> grind), rfl⟩) (by omega) (by omega)
                · skip
                  refine J_iload_n 3 rfl dX0_canTake_92 ?_
                  refine J_if_eq 100 (by decide) dX0_canTake_93 (fun c324 => ?_) (fun c324 => ?_)
                  · exact absurd c324 (by decide)
                  refine J_iconst (v := 1) (by decide) dX0_canTake_96 ?_
                  refine J_goto 101 (by decide) dX0_canTake_97 ?_
                  exact J_ireturn rfl (by first | rfl | assumption | simp [kb_nar]) dX0_canTake_101 (⟨by (try simp only [kb_0, kb_1, kb_n0, kb_n1, decide_eq_false_iff_not, decide_eq_true_eq, ne_eq, Classical.not_not] at *); first | (simp [kb, kb_0, kb_1, vr_n, vr_s, takF, may_1, may_2, havF_n, havF_s, shF_none, shF_some, *]; done) | (simp [kb, kb_0, kb_1, vr_n, vr_s, takF, may_1, may_2, havF_n, havF_s, shF_none, shF_some, *] <;> grind), rfl⟩) (by omega) (by omega)
      · skip
        refine J_iconst (v := 0) (by decide) dX0_canTake_64 ?_
        exact J_ireturn rfl (by first | rfl | assumption | simp [kb_nar]) dX0_canTake_65 (⟨by (try simp only [kb_0, kb_1, kb_n0, kb_n1, decide_eq_false_iff_not, decide_eq_true_eq, ne_eq, Classical.not_not] at *); first | (simp [kb, kb_0, kb_1, vr_n, vr_s, takF, may_1, may_2, havF_n, havF_s, shF_none, shF_some, *]; done) | (simp [kb, kb_0, kb_1, vr_n, vr_s, takF, may_1, may_2, havF_n, havF_s, shF_none, shF_some, *] <;> grind), rfl⟩) (by omega) (by omega)
    · skip
      refine J_iconst (v := 1) (by decide) dX0_canTake_38 ?_
      refine J_goto 43 (by decide) dX0_canTake_39 ?_
      refine J_istore (lv' := [(0, .ref (ka S 3 0)), (1, .ref a), (2, .int v), (3, .int 0), (4, .int 0), (5, .ref a3), (6, .int 1)]) (by decide) rfl dX0_canTake_43 ?_
      refine J_aload 5 rfl dX0_canTake_45 ?_
      refine J_ifnull dX0_canTake_47 ?_
      refine J_iload 6 rfl dX0_canTake_50 ?_
      refine J_if_ne 66 (by decide) dX0_canTake_52 (fun c325 => ?_) (fun c325 => ?_)
      rotate_left
      · exact absurd c325 (by decide)
      refine J_iload 6 rfl dX0_canTake_66 ?_
      refine J_if_eq 82 (by decide) dX0_canTake_68 (fun c326 => ?_) (fun c326 => ?_)
      · exact absurd c326 (by decide)
      refine J_aload_n 1 rfl dX0_canTake_71 ?_
      refine J_iload 4 rfl dX0_canTake_72 ?_
      refine cv_0_29 (cells' := 0) (slots' := 0) dX0_canTake_74 (c_X5_mayHave (by assumption)) (n20 (by assumption)) ⟨by decide, by decide⟩ rfl rfl (by decide) (by decide) (Nat.le_of_ble_eq_true rfl) (fun _ _ r327 => ?_) (fun _ _ h => h.elim)
      obtain ⟨rfl, rfl⟩ := r327
      refine J_eq (st' := [.int (kb (mayF I a 0))]) rfl rfl rfl ?_
      refine J_if_eq 82 (by decide) dX0_canTake_77 (fun c328 => ?_) (fun c328 => ?_)
      · skip
        refine J_iinc (v := 1) (lv' := [(0, .ref (ka S 3 0)), (1, .ref a), (2, .int v), (3, .int 0), (4, .int 1), (5, .ref a3), (6, .int 1)]) 4 rfl (by decide) (by decide) rfl dX0_canTake_82 ?_
        refine J_goto 5 (by decide) dX0_canTake_85 ?_
        refine J_iload 4 rfl dX0_canTake_5 ?_
        refine J_aload_n 0 rfl dX0_canTake_7 ?_
        refine gf_0_11 (n3 _) dX0_canTake_8 ?_
        refine J_alen (v := 3) 5 (n14 _) rfl rfl rfl dX0_canTake_11 ?_
        refine J_icmp_ge 88 (by decide) dX0_canTake_12 (fun c330 => ?_) (fun c330 => ?_)
        · exact absurd c330 (by decide)
        refine J_aload_n 0 rfl dX0_canTake_15 ?_
        refine gf_0_11 (n3 _) dX0_canTake_16 ?_
        refine J_iload 4 rfl dX0_canTake_19 ?_
        refine J_aald 1 5 (n14 _) rfl rfl (vp_in_iff.mpr (by decide)) (by decide) dX0_canTake_21 ?_
        rcases opt_split (R 14 0 1) with o331 | ⟨a332, o331⟩
        · skip
          refine J_topv (v' := .null) (by first | rfl | (rw [o331]; rfl)) ?_
          refine J_astoreN (lv' := [(0, .ref (ka S 3 0)), (1, .ref a), (2, .int v), (3, .int 0), (4, .int 1), (5, .null), (6, .int 1)]) (by decide) rfl dX0_canTake_22 ?_
          refine J_aloadN 5 rfl dX0_canTake_24 ?_
          refine J_ifnullN 38 (by decide) dX0_canTake_26 ?_
          refine J_iconst (v := 1) (by decide) dX0_canTake_38 ?_
          refine J_goto 43 (by decide) dX0_canTake_39 ?_
          refine J_istore (lv' := [(0, .ref (ka S 3 0)), (1, .ref a), (2, .int v), (3, .int 0), (4, .int 1), (5, .null), (6, .int 1)]) (by decide) rfl dX0_canTake_43 ?_
          refine J_aloadN 5 rfl dX0_canTake_45 ?_
          refine J_ifnullN 66 (by decide) dX0_canTake_47 ?_
          refine J_iload 6 rfl dX0_canTake_66 ?_
          refine J_if_eq 82 (by decide) dX0_canTake_68 (fun c333 => ?_) (fun c333 => ?_)
          · exact absurd c333 (by decide)
          refine J_aload_n 1 rfl dX0_canTake_71 ?_
          refine J_iload 4 rfl dX0_canTake_72 ?_
          refine cv_0_29 (cells' := 0) (slots' := 0) dX0_canTake_74 (c_X5_mayHave (by assumption)) (n20 (by assumption)) ⟨by decide, by decide⟩ rfl rfl (by decide) (by decide) (Nat.le_of_ble_eq_true rfl) (fun _ _ r334 => ?_) (fun _ _ h => h.elim)
          obtain ⟨rfl, rfl⟩ := r334
          refine J_eq (st' := [.int (kb (mayF I a 1))]) rfl rfl rfl ?_
          refine J_topv (v' := .int 1) (by first | rfl | (rw [may_1]; rfl)) ?_
          refine J_if_eq 82 (by decide) dX0_canTake_77 (fun c335 => ?_) (fun c335 => ?_)
          · exact absurd c335 (by decide)
          refine J_iconst (v := 1) (by decide) dX0_canTake_80 ?_
          refine J_istore_n (lv' := [(0, .ref (ka S 3 0)), (1, .ref a), (2, .int v), (3, .int 1), (4, .int 1), (5, .null), (6, .int 1)]) (by decide) rfl dX0_canTake_81 ?_
          refine J_iinc (v := 2) (lv' := [(0, .ref (ka S 3 0)), (1, .ref a), (2, .int v), (3, .int 1), (4, .int 2), (5, .null), (6, .int 1)]) 4 rfl (by decide) (by decide) rfl dX0_canTake_82 ?_
          refine J_goto 5 (by decide) dX0_canTake_85 ?_
          refine J_iload 4 rfl dX0_canTake_5 ?_
          refine J_aload_n 0 rfl dX0_canTake_7 ?_
          refine gf_0_11 (n3 _) dX0_canTake_8 ?_
          refine J_alen (v := 3) 5 (n14 _) rfl rfl rfl dX0_canTake_11 ?_
          refine J_icmp_ge 88 (by decide) dX0_canTake_12 (fun c337 => ?_) (fun c337 => ?_)
          · exact absurd c337 (by decide)
          refine J_aload_n 0 rfl dX0_canTake_15 ?_
          refine gf_0_11 (n3 _) dX0_canTake_16 ?_
          refine J_iload 4 rfl dX0_canTake_19 ?_
          refine J_aald 2 5 (n14 _) rfl rfl (vp_in_iff.mpr (by decide)) (by decide) dX0_canTake_21 ?_
          rcases opt_split (R 14 0 2) with o338 | ⟨a339, o338⟩
          · skip
            refine J_topv (v' := .null) (by first | rfl | (rw [o338]; rfl)) ?_
            refine J_astoreN (lv' := [(0, .ref (ka S 3 0)), (1, .ref a), (2, .int v), (3, .int 1), (4, .int 2), (5, .null), (6, .int 1)]) (by decide) rfl dX0_canTake_22 ?_
            refine J_aloadN 5 rfl dX0_canTake_24 ?_
            refine J_ifnullN 38 (by decide) dX0_canTake_26 ?_
            refine J_iconst (v := 1) (by decide) dX0_canTake_38 ?_
            refine J_goto 43 (by decide) dX0_canTake_39 ?_
            refine J_istore (lv' := [(0, .ref (ka S 3 0)), (1, .ref a), (2, .int v), (3, .int 1), (4, .int 2), (5, .null), (6, .int 1)]) (by decide) rfl dX0_canTake_43 ?_
            refine J_aloadN 5 rfl dX0_canTake_45 ?_
            refine J_ifnullN 66 (by decide) dX0_canTake_47 ?_
            refine J_iload 6 rfl dX0_canTake_66 ?_
            refine J_if_eq 82 (by decide) dX0_canTake_68 (fun c340 => ?_) (fun c340 => ?_)
            · exact absurd c340 (by decide)
            refine J_aload_n 1 rfl dX0_canTake_71 ?_
            refine J_iload 4 rfl dX0_canTake_72 ?_
            refine cv_0_29 (cells' := 0) (slots' := 0) dX0_canTake_74 (c_X5_mayHave (by assumption)) (n20 (by assumption)) ⟨by decide, by decide⟩ rfl rfl (by decide) (by decide) (Nat.le_of_ble_eq_true rfl) (fun _ _ r341 => ?_) (fun _ _ h => h.elim)
            obtain ⟨rfl, rfl⟩ := r341
            refine J_eq (st' := [.int (kb (mayF I a 2))]) rfl rfl rfl ?_
            refine J_topv (v' := .int 1) (by first | rfl | (rw [may_2]; rfl)) ?_
            refine J_if_eq 82 (by decide) dX0_canTake_77 (fun c342 => ?_) (fun c342 => ?_)
            · exact absurd c342 (by decide)
            refine J_iconst (v := 1) (by decide) dX0_canTake_80 ?_
            refine J_istore_n (lv' := [(0, .ref (ka S 3 0)), (1, .ref a), (2, .int v), (3, .int 1), (4, .int 2), (5, .null), (6, .int 1)]) (by decide) rfl dX0_canTake_81 ?_
            refine J_iinc (v := 3) (lv' := [(0, .ref (ka S 3 0)), (1, .ref a), (2, .int v), (3, .int 1), (4, .int 3), (5, .null), (6, .int 1)]) 4 rfl (by decide) (by decide) rfl dX0_canTake_82 ?_
            refine J_goto 5 (by decide) dX0_canTake_85 ?_
            refine J_iload 4 rfl dX0_canTake_5 ?_
            refine J_aload_n 0 rfl dX0_canTake_7 ?_
            refine gf_0_11 (n3 _) dX0_canTake_8 ?_
            refine J_alen (v := 3) 5 (n14 _) rfl rfl rfl dX0_canTake_11 ?_
            refine J_icmp_ge 88 (by decide) dX0_canTake_12 (fun c344 => ?_) (fun c344 => ?_)
            rotate_left
            · exact absurd (by decide) c344
            refine J_iload_n 2 rfl dX0_canTake_88 ?_
            refine J_if_eq 100 (by decide) dX0_canTake_89 (fun c345 => ?_) (fun c345 => ?_)
            · skip
              refine J_iconst (v := 0) (by decide) dX0_canTake_100 ?_
              exact J_ireturn rfl (by first | rfl | assumption | simp [kb_nar]) dX0_canTake_101 (⟨by (try simp only [kb_0, kb_1, kb_n0, kb_n1, decide_eq_false_iff_not, decide_eq_true_eq, ne_eq, Classical.not_not] at *); first | (simp [kb, kb_0, kb_1, vr_n, vr_s, takF, may_1, may_2, havF_n, havF_s, shF_none, shF_some, *]; done) | (simp [kb, kb_0, kb_1, vr_n, vr_s, takF, may_1, may_2, havF_n, havF_s, shF_none, shF_some, *] <;> grind), rfl⟩) (by omega) (by omega)
            · skip
              refine J_iload_n 3 rfl dX0_canTake_92 ?_
              refine J_if_eq 100 (by decide) dX0_canTake_93 (fun c346 => ?_) (fun c346 => ?_)
              · exact absurd c346 (by decide)
              refine J_iconst (v := 1) (by decide) dX0_canTake_96 ?_
              refine J_goto 101 (by decide) dX0_canTake_97 ?_
              exact J_ireturn rfl (by first | rfl | assumption | simp [kb_nar]) dX0_canTake_101 (⟨by (try simp only [kb_0, kb_1, kb_n0, kb_n1, decide_eq_false_iff_not, decide_eq_true_eq, ne_eq, Classical.not_not] at *); first | (simp [kb, kb_0, kb_1, vr_n, vr_s, takF, may_1, may_2, havF_n, havF_s, shF_none, shF_some, *]; done) | (simp [kb, kb_0, kb_1, vr_n, vr_s, takF, may_1, may_2, havF_n, havF_s, shF_none, shF_some, *] <;> grind), rfl⟩) (by omega) (by omega)
          · skip
            have ma339 : a339 ∈ LP := hsp _ _ (by decide) o338
            refine J_topv (v' := .ref a339) (by first | rfl | (rw [o338]; rfl)) ?_
            refine J_astore (lv' := [(0, .ref (ka S 3 0)), (1, .ref a), (2, .int v), (3, .int 1), (4, .int 2), (5, .ref a339), (6, .int 1)]) (by decide) rfl dX0_canTake_22 ?_
            refine J_aload 5 rfl dX0_canTake_24 ?_
            refine J_ifnull dX0_canTake_26 ?_
            refine J_aload_n 1 rfl dX0_canTake_29 ?_
            refine J_aload 5 rfl dX0_canTake_30 ?_
            refine cv_0_25 (cells' := 0) (slots' := 0) dX0_canTake_32 (c_X5_canBreakInOn (by assumption) (by assumption)) (n20 (by assumption)) ⟨by decide, by decide⟩ rfl rfl (by decide) (by decide) (Nat.le_of_ble_eq_true rfl) (fun _ _ r347 => ?_) (fun _ _ h => h.elim)
            obtain ⟨rfl, rfl⟩ := r347
            refine J_eq (st' := [.int (kb (brkF I a a339))]) rfl rfl rfl ?_
            refine J_if_eq 42 (by decide) dX0_canTake_35 (fun c348 => ?_) (fun c348 => ?_)
            · skip
              refine J_iconst (v := 0) (by decide) dX0_canTake_42 ?_
              refine J_istore (lv' := [(0, .ref (ka S 3 0)), (1, .ref a), (2, .int v), (3, .int 1), (4, .int 2), (5, .ref a339), (6, .int 0)]) (by decide) rfl dX0_canTake_43 ?_
              refine J_aload 5 rfl dX0_canTake_45 ?_
              refine J_ifnull dX0_canTake_47 ?_
              refine J_iload 6 rfl dX0_canTake_50 ?_
              refine J_if_ne 66 (by decide) dX0_canTake_52 (fun c349 => ?_) (fun c349 => ?_)
              · exact absurd (by decide) c349
              refine J_aload 5 rfl dX0_canTake_55 ?_
              refine J_iload_n 2 rfl dX0_canTake_57 ?_
              refine cv_0_21 (cells' := 0) (slots' := 0) dX0_canTake_58 (c_X5_sharesStationWith (by assumption)) (n20 (by assumption)) ⟨by decide, by decide⟩ rfl rfl (by decide) (by decide) (Nat.le_of_ble_eq_true rfl) (fun _ _ r350 => ?_) (fun _ _ h => h.elim)
              obtain ⟨rfl, rfl⟩ := r350
              refine J_eq (st' := [.int (kb (shrF I a339 v))]) rfl rfl rfl ?_
              refine J_if_eq 66 (by decide) dX0_canTake_61 (fun c351 => ?_) (fun c351 => ?_)
              · skip
                refine J_iload 6 rfl dX0_canTake_66 ?_
                refine J_if_eq 82 (by decide) dX0_canTake_68 (fun c352 => ?_) (fun c352 => ?_)
                rotate_left
                · exact absurd (by decide) c352
                refine J_iinc (v := 3) (lv' := [(0, .ref (ka S 3 0)), (1, .ref a), (2, .int v), (3, .int 1), (4, .int 3), (5, .ref a339), (6, .int 0)]) 4 rfl (by decide) (by decide) rfl dX0_canTake_82 ?_
                refine J_goto 5 (by decide) dX0_canTake_85 ?_
                refine J_iload 4 rfl dX0_canTake_5 ?_
                refine J_aload_n 0 rfl dX0_canTake_7 ?_
                refine gf_0_11 (n3 _) dX0_canTake_8 ?_
                refine J_alen (v := 3) 5 (n14 _) rfl rfl rfl dX0_canTake_11 ?_
                refine J_icmp_ge 88 (by decide) dX0_canTake_12 (fun c354 => ?_) (fun c354 => ?_)
                rotate_left
                · exact absurd (by decide) c354
                refine J_iload_n 2 rfl dX0_canTake_88 ?_
                refine J_if_eq 100 (by decide) dX0_canTake_89 (fun c355 => ?_) (fun c355 => ?_)
                · skip
                  refine J_iconst (v := 0) (by decide) dX0_canTake_100 ?_
                  exact J_ireturn rfl (by first | rfl | assumption | simp [kb_nar]) dX0_canTake_101 (⟨by (try simp only [kb_0, kb_1, kb_n0, kb_n1, decide_eq_false_iff_not, decide_eq_true_eq, ne_eq, Classical.not_not] at *); first | (simp [kb, kb_0, kb_1, vr_n, vr_s, takF, may_1, may_2, havF_n, havF_s, shF_none, shF_some, *]; done) | (simp [kb, kb_0, kb_1, vr_n, vr_s, takF, may_1, may_2, havF_n, havF_s, shF_none, shF_some, *] <;> grind), rfl⟩) (by omega) (by omega)
                · skip
                  refine J_iload_n 3 rfl dX0_canTake_92 ?_
                  refine J_if_eq 100 (by decide) dX0_canTake_93 (fun c356 => ?_) (fun c356 => ?_)
                  · exact absurd c356 (by decide)
                  refine J_iconst (v := 1) (by decide) dX0_canTake_96 ?_
                  refine J_goto 101 (by decide) dX0_canTake_97 ?_
                  exact J_ireturn rfl (by first | rfl | assumption | simp [kb_nar]) dX0_canTake_101 (⟨by (try simp only [kb_0, kb_1, kb_n0, kb_n1, decide_eq_false_iff_not, decide_eq_true_eq, ne_eq, Classical.not_not] at *); first | (simp [kb, kb_0, kb_1, vr_n, vr_s, takF, may_1, may_2, havF_n, havF_s, shF_none, shF_some, *]; done) | (simp [kb, kb_0, kb_1, vr_n, vr_s, takF, may_1, may_2, havF_n, havF_s, shF_none, shF_some, *] <;> grind), rfl⟩) (by omega) (by omega)
              · skip
                refine J_iconst (v := 0) (by decide) dX0_canTake_64 ?_
                exact J_ireturn rfl (by first | rfl | assumption | simp [kb_nar]) dX0_canTake_65 (⟨by (try simp only [kb_0, kb_1, kb_n0, kb_n1, decide_eq_false_iff_not, decide_eq_true_eq, ne_eq, Classical.not_not] at *); first | (simp [kb, kb_0, kb_1, vr_n, vr_s, takF, may_1, may_2, havF_n, havF_s, shF_none, shF_some, *]; done) | (simp [kb, kb_0, kb_1, vr_n, vr_s, takF, may_1, may_2, havF_n, havF_s, shF_none, shF_some, *] <;> grind), rfl⟩) (by omega) (by omega)
            · skip
              refine J_iconst (v := 1) (by decide) dX0_canTake_38 ?_
              refine J_goto 43 (by decide) dX0_canTake_39 ?_
              refine J_istore (lv' := [(0, .ref (ka S 3 0)), (1, .ref a), (2, .int v), (3, .int 1), (4, .int 2), (5, .ref a339), (6, .int 1)]) (by decide) rfl dX0_canTake_43 ?_
              refine J_aload 5 rfl dX0_canTake_45 ?_
              refine J_ifnull dX0_canTake_47 ?_
              refine J_iload 6 rfl dX0_canTake_50 ?_
              refine J_if_ne 66 (by decide) dX0_canTake_52 (fun c357 => ?_) (fun c357 => ?_)
              rotate_left
              · exact absurd c357 (by decide)
              refine J_iload 6 rfl dX0_canTake_66 ?_
              refine J_if_eq 82 (by decide) dX0_canTake_68 (fun c358 => ?_) (fun c358 => ?_)
              · exact absurd c358 (by decide)
              refine J_aload_n 1 rfl dX0_canTake_71 ?_
              refine J_iload 4 rfl dX0_canTake_72 ?_
              refine cv_0_29 (cells' := 0) (slots' := 0) dX0_canTake_74 (c_X5_mayHave (by assumption)) (n20 (by assumption)) ⟨by decide, by decide⟩ rfl rfl (by decide) (by decide) (Nat.le_of_ble_eq_true rfl) (fun _ _ r359 => ?_) (fun _ _ h => h.elim)
              obtain ⟨rfl, rfl⟩ := r359
              refine J_eq (st' := [.int (kb (mayF I a 2))]) rfl rfl rfl ?_
              refine J_topv (v' := .int 1) (by first | rfl | (rw [may_2]; rfl)) ?_
              refine J_if_eq 82 (by decide) dX0_canTake_77 (fun c360 => ?_) (fun c360 => ?_)
              · exact absurd c360 (by decide)
              refine J_iconst (v := 1) (by decide) dX0_canTake_80 ?_
              refine J_istore_n (lv' := [(0, .ref (ka S 3 0)), (1, .ref a), (2, .int v), (3, .int 1), (4, .int 2), (5, .ref a339), (6, .int 1)]) (by decide) rfl dX0_canTake_81 ?_
              refine J_iinc (v := 3) (lv' := [(0, .ref (ka S 3 0)), (1, .ref a), (2, .int v), (3, .int 1), (4, .int 3), (5, .ref a339), (6, .int 1)]) 4 rfl (by decide) (by decide) rfl dX0_canTake_82 ?_
              refine J_goto 5 (by decide) dX0_canTake_85 ?_
              refine J_iload 4 rfl dX0_canTake_5 ?_
              refine J_aload_n 0 rfl dX0_canTake_7 ?_
              refine gf_0_11 (n3 _) dX0_canTake_8 ?_
              refine J_alen (v := 3) 5 (n14 _) rfl rfl rfl dX0_canTake_11 ?_
              refine J_icmp_ge 88 (by decide) dX0_canTake_12 (fun c362 => ?_) (fun c362 => ?_)
              rotate_left
              · exact absurd (by decide) c362
              refine J_iload_n 2 rfl dX0_canTake_88 ?_
              refine J_if_eq 100 (by decide) dX0_canTake_89 (fun c363 => ?_) (fun c363 => ?_)
              · skip
                refine J_iconst (v := 0) (by decide) dX0_canTake_100 ?_
                exact J_ireturn rfl (by first | rfl | assumption | simp [kb_nar]) dX0_canTake_101 (⟨by (try simp only [kb_0, kb_1, kb_n0, kb_n1, decide_eq_false_iff_not, decide_eq_true_eq, ne_eq, Classical.not_not] at *); first | (simp [kb, kb_0, kb_1, vr_n, vr_s, takF, may_1, may_2, havF_n, havF_s, shF_none, shF_some, *]; done) | (simp [kb, kb_0, kb_1, vr_n, vr_s, takF, may_1, may_2, havF_n, havF_s, shF_none, shF_some, *] <;> grind), rfl⟩) (by omega) (by omega)
              · skip
                refine J_iload_n 3 rfl dX0_canTake_92 ?_
                refine J_if_eq 100 (by decide) dX0_canTake_93 (fun c364 => ?_) (fun c364 => ?_)
                · exact absurd c364 (by decide)
                refine J_iconst (v := 1) (by decide) dX0_canTake_96 ?_
                refine J_goto 101 (by decide) dX0_canTake_97 ?_
                exact J_ireturn rfl (by first | rfl | assumption | simp [kb_nar]) dX0_canTake_101 (⟨by (try simp only [kb_0, kb_1, kb_n0, kb_n1, decide_eq_false_iff_not, decide_eq_true_eq, ne_eq, Classical.not_not] at *); first | (simp [kb, kb_0, kb_1, vr_n, vr_s, takF, may_1, may_2, havF_n, havF_s, shF_none, shF_some, *]; done) | (simp [kb, kb_0, kb_1, vr_n, vr_s, takF, may_1, may_2, havF_n, havF_s, shF_none, shF_some, *] <;> grind), rfl⟩) (by omega) (by omega)
        · skip
          have ma332 : a332 ∈ LP := hsp _ _ (by decide) o331
          refine J_topv (v' := .ref a332) (by first | rfl | (rw [o331]; rfl)) ?_
          refine J_astore (lv' := [(0, .ref (ka S 3 0)), (1, .ref a), (2, .int v), (3, .int 0), (4, .int 1), (5, .ref a332), (6, .int 1)]) (by decide) rfl dX0_canTake_22 ?_
          refine J_aload 5 rfl dX0_canTake_24 ?_
          refine J_ifnull dX0_canTake_26 ?_
          refine J_aload_n 1 rfl dX0_canTake_29 ?_
          refine J_aload 5 rfl dX0_canTake_30 ?_
          refine cv_0_25 (cells' := 0) (slots' := 0) dX0_canTake_32 (c_X5_canBreakInOn (by assumption) (by assumption)) (n20 (by assumption)) ⟨by decide, by decide⟩ rfl rfl (by decide) (by decide) (Nat.le_of_ble_eq_true rfl) (fun _ _ r365 => ?_) (fun _ _ h => h.elim)
          obtain ⟨rfl, rfl⟩ := r365
          refine J_eq (st' := [.int (kb (brkF I a a332))]) rfl rfl rfl ?_
          refine J_if_eq 42 (by decide) dX0_canTake_35 (fun c366 => ?_) (fun c366 => ?_)
          · skip
            refine J_iconst (v := 0) (by decide) dX0_canTake_42 ?_
            refine J_istore (lv' := [(0, .ref (ka S 3 0)), (1, .ref a), (2, .int v), (3, .int 0), (4, .int 1), (5, .ref a332), (6, .int 0)]) (by decide) rfl dX0_canTake_43 ?_
            refine J_aload 5 rfl dX0_canTake_45 ?_
            refine J_ifnull dX0_canTake_47 ?_
            refine J_iload 6 rfl dX0_canTake_50 ?_
            refine J_if_ne 66 (by decide) dX0_canTake_52 (fun c367 => ?_) (fun c367 => ?_)
            · exact absurd (by decide) c367
            refine J_aload 5 rfl dX0_canTake_55 ?_
            refine J_iload_n 2 rfl dX0_canTake_57 ?_
            refine cv_0_21 (cells' := 0) (slots' := 0) dX0_canTake_58 (c_X5_sharesStationWith (by assumption)) (n20 (by assumption)) ⟨by decide, by decide⟩ rfl rfl (by decide) (by decide) (Nat.le_of_ble_eq_true rfl) (fun _ _ r368 => ?_) (fun _ _ h => h.elim)
            obtain ⟨rfl, rfl⟩ := r368
            refine J_eq (st' := [.int (kb (shrF I a332 v))]) rfl rfl rfl ?_
            refine J_if_eq 66 (by decide) dX0_canTake_61 (fun c369 => ?_) (fun c369 => ?_)
            · skip
              refine J_iload 6 rfl dX0_canTake_66 ?_
              refine J_if_eq 82 (by decide) dX0_canTake_68 (fun c370 => ?_) (fun c370 => ?_)
              rotate_left
              · exact absurd (by decide) c370
              refine J_iinc (v := 2) (lv' := [(0, .ref (ka S 3 0)), (1, .ref a), (2, .int v), (3, .int 0), (4, .int 2), (5, .ref a332), (6, .int 0)]) 4 rfl (by decide) (by decide) rfl dX0_canTake_82 ?_
              refine J_goto 5 (by decide) dX0_canTake_85 ?_
              refine J_iload 4 rfl dX0_canTake_5 ?_
              refine J_aload_n 0 rfl dX0_canTake_7 ?_
              refine gf_0_11 (n3 _) dX0_canTake_8 ?_
              refine J_alen (v := 3) 5 (n14 _) rfl rfl rfl dX0_canTake_11 ?_
              refine J_icmp_ge 88 (by decide) dX0_canTake_12 (fun c372 => ?_) (fun c372 => ?_)
              · exact absurd c372 (by decide)
              refine J_aload_n 0 rfl dX0_canTake_15 ?_
              refine gf_0_11 (n3 _) dX0_canTake_16 ?_
              refine J_iload 4 rfl dX0_canTake_19 ?_
              refine J_aald 2 5 (n14 _) rfl rfl (vp_in_iff.mpr (by decide)) (by decide) dX0_canTake_21 ?_
              rcases opt_split (R 14 0 2) with o373 | ⟨a374, o373⟩
              · skip
                refine J_topv (v' := .null) (by first | rfl | (rw [o373]; rfl)) ?_
                refine J_astoreN (lv' := [(0, .ref (ka S 3 0)), (1, .ref a), (2, .int v), (3, .int 0), (4, .int 2), (5, .null), (6, .int 0)]) (by decide) rfl dX0_canTake_22 ?_
                refine J_aloadN 5 rfl dX0_canTake_24 ?_
                refine J_ifnullN 38 (by decide) dX0_canTake_26 ?_
                refine J_iconst (v := 1) (by decide) dX0_canTake_38 ?_
                refine J_goto 43 (by decide) dX0_canTake_39 ?_
                refine J_istore (lv' := [(0, .ref (ka S 3 0)), (1, .ref a), (2, .int v), (3, .int 0), (4, .int 2), (5, .null), (6, .int 1)]) (by decide) rfl dX0_canTake_43 ?_
                refine J_aloadN 5 rfl dX0_canTake_45 ?_
                refine J_ifnullN 66 (by decide) dX0_canTake_47 ?_
                refine J_iload 6 rfl dX0_canTake_66 ?_
                refine J_if_eq 82 (by decide) dX0_canTake_68 (fun c375 => ?_) (fun c375 => ?_)
                · exact absurd c375 (by decide)
                refine J_aload_n 1 rfl dX0_canTake_71 ?_
                refine J_iload 4 rfl dX0_canTake_72 ?_
                refine cv_0_29 (cells' := 0) (slots' := 0) dX0_canTake_74 (c_X5_mayHave (by assumption)) (n20 (by assumption)) ⟨by decide, by decide⟩ rfl rfl (by decide) (by decide) (Nat.le_of_ble_eq_true rfl) (fun _ _ r376 => ?_) (fun _ _ h => h.elim)
                obtain ⟨rfl, rfl⟩ := r376
                refine J_eq (st' := [.int (kb (mayF I a 2))]) rfl rfl rfl ?_
                refine J_topv (v' := .int 1) (by first | rfl | (rw [may_2]; rfl)) ?_
                refine J_if_eq 82 (by decide) dX0_canTake_77 (fun c377 => ?_) (fun c377 => ?_)
                · exact absurd c377 (by decide)
                refine J_iconst (v := 1) (by decide) dX0_canTake_80 ?_
                refine J_istore_n (lv' := [(0, .ref (ka S 3 0)), (1, .ref a), (2, .int v), (3, .int 1), (4, .int 2), (5, .null), (6, .int 1)]) (by decide) rfl dX0_canTake_81 ?_
                refine J_iinc (v := 3) (lv' := [(0, .ref (ka S 3 0)), (1, .ref a), (2, .int v), (3, .int 1), (4, .int 3), (5, .null), (6, .int 1)]) 4 rfl (by decide) (by decide) rfl dX0_canTake_82 ?_
                refine J_goto 5 (by decide) dX0_canTake_85 ?_
                refine J_iload 4 rfl dX0_canTake_5 ?_
                refine J_aload_n 0 rfl dX0_canTake_7 ?_
                refine gf_0_11 (n3 _) dX0_canTake_8 ?_
                refine J_alen (v := 3) 5 (n14 _) rfl rfl rfl dX0_canTake_11 ?_
                refine J_icmp_ge 88 (by decide) dX0_canTake_12 (fun c379 => ?_) (fun c379 => ?_)
                rotate_left
                · exact absurd (by decide) c379
                refine J_iload_n 2 rfl dX0_canTake_88 ?_
                refine J_if_eq 100 (by decide) dX0_canTake_89 (fun c380 => ?_) (fun c380 => ?_)
                · skip
                  refine J_iconst (v := 0) (by decide) dX0_canTake_100 ?_
                  exact J_ireturn rfl (by first | rfl | assumption | simp [kb_nar]) dX0_canTake_101 (⟨by (try simp only [kb_0, kb_1, kb_n0, kb_n1, decide_eq_false_iff_not, decide_eq_true_eq, ne_eq, Classical.not_not] at *); first | (simp [kb, kb_0, kb_1, vr_n, vr_s, takF, may_1, may_2, havF_n, havF_s, shF_none, shF_some, *]; done) | (simp [kb, kb_0, kb_1, vr_n, vr_s, takF, may_1, may_2, havF_n, havF_s, shF_none, shF_some, *] <;> grind), rfl⟩) (by omega) (by omega)
                · skip
                  refine J_iload_n 3 rfl dX0_canTake_92 ?_
                  refine J_if_eq 100 (by decide) dX0_canTake_93 (fun c381 => ?_) (fun c381 => ?_)
                  · exact absurd c381 (by decide)
                  refine J_iconst (v := 1) (by decide) dX0_canTake_96 ?_
                  refine J_goto 101 (by decide) dX0_canTake_97 ?_
                  exact J_ireturn rfl (by first | rfl | assumption | simp [kb_nar]) dX0_canTake_101 (⟨by (try simp only [kb_0, kb_1, kb_n0, kb_n1, decide_eq_false_iff_not, decide_eq_true_eq, ne_eq, Classical.not_not] at *); first | (simp [kb, kb_0, kb_1, vr_n, vr_s, takF, may_1, may_2, havF_n, havF_s, shF_none, shF_some, *]; done) | (simp [kb, kb_0, kb_1, vr_n, vr_s, takF, may_1, may_2, havF_n, havF_s, shF_none, shF_some, *] <;> grind), rfl⟩) (by omega) (by omega)
              · skip
                have ma374 : a374 ∈ LP := hsp _ _ (by decide) o373
                refine J_topv (v' := .ref a374) (by first | rfl | (rw [o373]; rfl)) ?_
                refine J_astore (lv' := [(0, .ref (ka S 3 0)), (1, .ref a), (2, .int v), (3, .int 0), (4, .int 2), (5, .ref a374), (6, .int 0)]) (by decide) rfl dX0_canTake_22 ?_
                refine J_aload 5 rfl dX0_canTake_24 ?_
                refine J_ifnull dX0_canTake_26 ?_
                refine J_aload_n 1 rfl dX0_canTake_29 ?_
                refine J_aload 5 rfl dX0_canTake_30 ?_
                refine cv_0_25 (cells' := 0) (slots' := 0) dX0_canTake_32 (c_X5_canBreakInOn (by assumption) (by assumption)) (n20 (by assumption)) ⟨by decide, by decide⟩ rfl rfl (by decide) (by decide) (Nat.le_of_ble_eq_true rfl) (fun _ _ r382 => ?_) (fun _ _ h => h.elim)
                obtain ⟨rfl, rfl⟩ := r382
                refine J_eq (st' := [.int (kb (brkF I a a374))]) rfl rfl rfl ?_
                refine J_if_eq 42 (by decide) dX0_canTake_35 (fun c383 => ?_) (fun c383 => ?_)
                · skip
                  refine J_iconst (v := 0) (by decide) dX0_canTake_42 ?_
                  refine J_istore (lv' := [(0, .ref (ka S 3 0)), (1, .ref a), (2, .int v), (3, .int 0), (4, .int 2), (5, .ref a374), (6, .int 0)]) (by decide) rfl dX0_canTake_43 ?_
                  refine J_aload 5 rfl dX0_canTake_45 ?_
                  refine J_ifnull dX0_canTake_47 ?_
                  refine J_iload 6 rfl dX0_canTake_50 ?_
                  refine J_if_ne 66 (by decide) dX0_canTake_52 (fun c384 => ?_) (fun c384 => ?_)
                  · exact absurd (by decide) c384
                  refine J_aload 5 rfl dX0_canTake_55 ?_
                  refine J_iload_n 2 rfl dX0_canTake_57 ?_
                  refine cv_0_21 (cells' := 0) (slots' := 0) dX0_canTake_58 (c_X5_sharesStationWith (by assumption)) (n20 (by assumption)) ⟨by decide, by decide⟩ rfl rfl (by decide) (by decide) (Nat.le_of_ble_eq_true rfl) (fun _ _ r385 => ?_) (fun _ _ h => h.elim)
                  obtain ⟨rfl, rfl⟩ := r385
                  refine J_eq (st' := [.int (kb (shrF I a374 v))]) rfl rfl rfl ?_
                  refine J_if_eq 66 (by decide) dX0_canTake_61 (fun c386 => ?_) (fun c386 => ?_)
                  · skip
                    refine J_iload 6 rfl dX0_canTake_66 ?_
                    refine J_if_eq 82 (by decide) dX0_canTake_68 (fun c387 => ?_) (fun c387 => ?_)
                    rotate_left
                    · exact absurd (by decide) c387
                    refine J_iinc (v := 3) (lv' := [(0, .ref (ka S 3 0)), (1, .ref a), (2, .int v), (3, .int 0), (4, .int 3), (5, .ref a374), (6, .int 0)]) 4 rfl (by decide) (by decide) rfl dX0_canTake_82 ?_
                    refine J_goto 5 (by decide) dX0_canTake_85 ?_
                    refine J_iload 4 rfl dX0_canTake_5 ?_
                    refine J_aload_n 0 rfl dX0_canTake_7 ?_
                    refine gf_0_11 (n3 _) dX0_canTake_8 ?_
                    refine J_alen (v := 3) 5 (n14 _) rfl rfl rfl dX0_canTake_11 ?_
                    refine J_icmp_ge 88 (by decide) dX0_canTake_12 (fun c389 => ?_) (fun c389 => ?_)
                    rotate_left
                    · exact absurd (by decide) c389
                    refine J_iload_n 2 rfl dX0_canTake_88 ?_
                    refine J_if_eq 100 (by decide) dX0_canTake_89 (fun c390 => ?_) (fun c390 => ?_)
                    · skip
                      refine J_iconst (v := 0) (by decide) dX0_canTake_100 ?_
                      exact J_ireturn rfl (by first | rfl | assumption | simp [kb_nar]) dX0_canTake_101 (⟨by (try simp only [kb_0, kb_1, kb_n0, kb_n1, decide_eq_false_iff_not, decide_eq_true_eq, ne_eq, Classical.not_not] at *); first | (simp [kb, kb_0, kb_1, vr_n, vr_s, takF, may_1, may_2, havF_n, havF_s, shF_none, shF_some, *]; done) | (simp [kb, kb_0, kb_1, vr_n, vr_s, takF, may_1, may_2, havF_n, havF_s, shF_none, shF_some, *] <;> grind), rfl⟩) (by omega) (by omega)
                    · skip
                      refine J_iload_n 3 rfl dX0_canTake_92 ?_
                      refine J_if_eq 100 (by decide) dX0_canTake_93 (fun c391 => ?_) (fun c391 => ?_)
                      rotate_left
                      · exact absurd (by decide) c391
                      refine J_iconst (v := 0) (by decide) dX0_canTake_100 ?_
                      exact J_ireturn rfl (by first | rfl | assumption | simp [kb_nar]) dX0_canTake_101 (⟨by (try simp only [kb_0, kb_1, kb_n0, kb_n1, decide_eq_false_iff_not, decide_eq_true_eq, ne_eq, Classical.not_not] at *); first | (simp [kb, kb_0, kb_1, vr_n, vr_s, takF, may_1, may_2, havF_n, havF_s, shF_none, shF_some, *]; done) | (simp [kb, kb_0, kb_1, vr_n, vr_s, takF, may_1, may_2, havF_n, havF_s, shF_none, shF_some, *] <;> grind), rfl⟩) (by omega) (by omega)
                  · skip
                    refine J_iconst (v := 0) (by decide) dX0_canTake_64 ?_
                    exact J_ireturn rfl (by first | rfl | assumption | simp [kb_nar]) dX0_canTake_65 (⟨by (try simp only [kb_0, kb_1, kb_n0, kb_n1, decide_eq_false_iff_not, decide_eq_true_eq, ne_eq, Classical.not_not] at *); first | (simp [kb, kb_0, kb_1, vr_n, vr_s, takF, may_1, may_2, havF_n, havF_s, shF_none, shF_some, *]; done) | (simp [kb, kb_0, kb_1, vr_n, vr_s, takF, may_1, may_2, havF_n, havF_s, shF_none, shF_some, *] <;> grind), rfl⟩) (by omega) (by omega)
                · skip
                  refine J_iconst (v := 1) (by decide) dX0_canTake_38 ?_
                  refine J_goto 43 (by decide) dX0_canTake_39 ?_
                  refine J_istore (lv' := [(0, .ref (ka S 3 0)), (1, .ref a), (2, .int v), (3, .int 0), (4, .int 2), (5, .ref a374), (6, .int 1)]) (by decide) rfl dX0_canTake_43 ?_
                  refine J_aload 5 rfl dX0_canTake_45 ?_
                  refine J_ifnull dX0_canTake_47 ?_
                  refine J_iload 6 rfl dX0_canTake_50 ?_
                  refine J_if_ne 66 (by decide) dX0_canTake_52 (fun c392 => ?_) (fun c392 => ?_)
                  rotate_left
                  · exact absurd c392 (by decide)
                  refine J_iload 6 rfl dX0_canTake_66 ?_
                  refine J_if_eq 82 (by decide) dX0_canTake_68 (fun c393 => ?_) (fun c393 => ?_)
                  · exact absurd c393 (by decide)
                  refine J_aload_n 1 rfl dX0_canTake_71 ?_
                  refine J_iload 4 rfl dX0_canTake_72 ?_
                  refine cv_0_29 (cells' := 0) (slots' := 0) dX0_canTake_74 (c_X5_mayHave (by assumption)) (n20 (by assumption)) ⟨by decide, by decide⟩ rfl rfl (by decide) (by decide) (Nat.le_of_ble_eq_true rfl) (fun _ _ r394 => ?_) (fun _ _ h => h.elim)
                  obtain ⟨rfl, rfl⟩ := r394
                  refine J_eq (st' := [.int (kb (mayF I a 2))]) rfl rfl rfl ?_
                  refine J_topv (v' := .int 1) (by first | rfl | (rw [may_2]; rfl)) ?_
                  refine J_if_eq 82 (by decide) dX0_canTake_77 (fun c395 => ?_) (fun c395 => ?_)
                  · exact absurd c395 (by decide)
                  refine J_iconst (v := 1) (by decide) dX0_canTake_80 ?_
                  refine J_istore_n (lv' := [(0, .ref (ka S 3 0)), (1, .ref a), (2, .int v), (3, .int 1), (4, .int 2), (5, .ref a374), (6, .int 1)]) (by decide) rfl dX0_canTake_81 ?_
                  refine J_iinc (v := 3) (lv' := [(0, .ref (ka S 3 0)), (1, .ref a), (2, .int v), (3, .int 1), (4, .int 3), (5, .ref a374), (6, .int 1)]) 4 rfl (by decide) (by decide) rfl dX0_canTake_82 ?_
                  refine J_goto 5 (by decide) dX0_canTake_85 ?_
                  refine J_iload 4 rfl dX0_canTake_5 ?_
                  refine J_aload_n 0 rfl dX0_canTake_7 ?_
                  refine gf_0_11 (n3 _) dX0_canTake_8 ?_
                  refine J_alen (v := 3) 5 (n14 _) rfl rfl rfl dX0_canTake_11 ?_
                  refine J_icmp_ge 88 (by decide) dX0_canTake_12 (fun c397 => ?_) (fun c397 => ?_)
                  rotate_left
                  · exact absurd (by decide) c397
                  refine J_iload_n 2 rfl dX0_canTake_88 ?_
                  refine J_if_eq 100 (by decide) dX0_canTake_89 (fun c398 => ?_) (fun c398 => ?_)
                  · skip
                    refine J_iconst (v := 0) (by decide) dX0_canTake_100 ?_
                    exact J_ireturn rfl (by first | rfl | assumption | simp [kb_nar]) dX0_canTake_101 (⟨by (try simp only [kb_0, kb_1, kb_n0, kb_n1, decide_eq_false_iff_not, decide_eq_true_eq, ne_eq, Classical.not_not] at *); first | (simp [kb, kb_0, kb_1, vr_n, vr_s, takF, may_1, may_2, havF_n, havF_s, shF_none, shF_some, *]; done) | (simp [kb, kb_0, kb_1, vr_n, vr_s, takF, may_1, may_2, havF_n, havF_s, shF_none, shF_some, *] <;> grind), rfl⟩) (by omega) (by omega)
                  · skip
                    refine J_iload_n 3 rfl dX0_canTake_92 ?_
                    refine J_if_eq 100 (by decide) dX0_canTake_93 (fun c399 => ?_) (fun c399 => ?_)
                    · exact absurd c399 (by decide)
                    refine J_iconst (v := 1) (by decide) dX0_canTake_96 ?_
                    refine J_goto 101 (by decide) dX0_canTake_97 ?_
                    exact J_ireturn rfl (by first | rfl | assumption | simp [kb_nar]) dX0_canTake_101 (⟨by (try simp only [kb_0, kb_1, kb_n0, kb_n1, decide_eq_false_iff_not, decide_eq_true_eq, ne_eq, Classical.not_not] at *); first | (simp [kb, kb_0, kb_1, vr_n, vr_s, takF, may_1, may_2, havF_n, havF_s, shF_none, shF_some, *]; done) | (simp [kb, kb_0, kb_1, vr_n, vr_s, takF, may_1, may_2, havF_n, havF_s, shF_none, shF_some, *] <;> grind), rfl⟩) (by omega) (by omega)
            · skip
              refine J_iconst (v := 0) (by decide) dX0_canTake_64 ?_
              exact J_ireturn rfl (by first | rfl | assumption | simp [kb_nar]) dX0_canTake_65 (⟨by (try simp only [kb_0, kb_1, kb_n0, kb_n1, decide_eq_false_iff_not, decide_eq_true_eq, ne_eq, Classical.not_not] at *); first | (simp [kb, kb_0, kb_1, vr_n, vr_s, takF, may_1, may_2, havF_n, havF_s, shF_none, shF_some, *]; done) | (simp [kb, kb_0, kb_1, vr_n, vr_s, takF, may_1, may_2, havF_n, havF_s, shF_none, shF_some, *] <;> grind), rfl⟩) (by omega) (by omega)
          · skip
            refine J_iconst (v := 1) (by decide) dX0_canTake_38 ?_
            refine J_goto 43 (by decide) dX0_canTake_39 ?_
            refine J_istore (lv' := [(0, .ref (ka S 3 0)), (1, .ref a), (2, .int v), (3, .int 0), (4, .int 1), (5, .ref a332), (6, .int 1)]) (by decide) rfl dX0_canTake_43 ?_
            refine J_aload 5 rfl dX0_canTake_45 ?_
            refine J_ifnull dX0_canTake_47 ?_
            refine J_iload 6 rfl dX0_canTake_50 ?_
            refine J_if_ne 66 (by decide) dX0_canTake_52 (fun c400 => ?_) (fun c400 => ?_)
            rotate_left
            · exact absurd c400 (by decide)
            refine J_iload 6 rfl dX0_canTake_66 ?_
            refine J_if_eq 82 (by decide) dX0_canTake_68 (fun c401 => ?_) (fun c401 => ?_)
            · exact absurd c401 (by decide)
            refine J_aload_n 1 rfl dX0_canTake_71 ?_
            refine J_iload 4 rfl dX0_canTake_72 ?_
            refine cv_0_29 (cells' := 0) (slots' := 0) dX0_canTake_74 (c_X5_mayHave (by assumption)) (n20 (by assumption)) ⟨by decide, by decide⟩ rfl rfl (by decide) (by decide) (Nat.le_of_ble_eq_true rfl) (fun _ _ r402 => ?_) (fun _ _ h => h.elim)
            obtain ⟨rfl, rfl⟩ := r402
            refine J_eq (st' := [.int (kb (mayF I a 1))]) rfl rfl rfl ?_
            refine J_topv (v' := .int 1) (by first | rfl | (rw [may_1]; rfl)) ?_
            refine J_if_eq 82 (by decide) dX0_canTake_77 (fun c403 => ?_) (fun c403 => ?_)
            · exact absurd c403 (by decide)
            refine J_iconst (v := 1) (by decide) dX0_canTake_80 ?_
            refine J_istore_n (lv' := [(0, .ref (ka S 3 0)), (1, .ref a), (2, .int v), (3, .int 1), (4, .int 1), (5, .ref a332), (6, .int 1)]) (by decide) rfl dX0_canTake_81 ?_
            refine J_iinc (v := 2) (lv' := [(0, .ref (ka S 3 0)), (1, .ref a), (2, .int v), (3, .int 1), (4, .int 2), (5, .ref a332), (6, .int 1)]) 4 rfl (by decide) (by decide) rfl dX0_canTake_82 ?_
            refine J_goto 5 (by decide) dX0_canTake_85 ?_
            refine J_iload 4 rfl dX0_canTake_5 ?_
            refine J_aload_n 0 rfl dX0_canTake_7 ?_
            refine gf_0_11 (n3 _) dX0_canTake_8 ?_
            refine J_alen (v := 3) 5 (n14 _) rfl rfl rfl dX0_canTake_11 ?_
            refine J_icmp_ge 88 (by decide) dX0_canTake_12 (fun c405 => ?_) (fun c405 => ?_)
            · exact absurd c405 (by decide)
            refine J_aload_n 0 rfl dX0_canTake_15 ?_
            refine gf_0_11 (n3 _) dX0_canTake_16 ?_
            refine J_iload 4 rfl dX0_canTake_19 ?_
            refine J_aald 2 5 (n14 _) rfl rfl (vp_in_iff.mpr (by decide)) (by decide) dX0_canTake_21 ?_
            rcases opt_split (R 14 0 2) with o406 | ⟨a407, o406⟩
            · skip
              refine J_topv (v' := .null) (by first | rfl | (rw [o406]; rfl)) ?_
              refine J_astoreN (lv' := [(0, .ref (ka S 3 0)), (1, .ref a), (2, .int v), (3, .int 1), (4, .int 2), (5, .null), (6, .int 1)]) (by decide) rfl dX0_canTake_22 ?_
              refine J_aloadN 5 rfl dX0_canTake_24 ?_
              refine J_ifnullN 38 (by decide) dX0_canTake_26 ?_
              refine J_iconst (v := 1) (by decide) dX0_canTake_38 ?_
              refine J_goto 43 (by decide) dX0_canTake_39 ?_
              refine J_istore (lv' := [(0, .ref (ka S 3 0)), (1, .ref a), (2, .int v), (3, .int 1), (4, .int 2), (5, .null), (6, .int 1)]) (by decide) rfl dX0_canTake_43 ?_
              refine J_aloadN 5 rfl dX0_canTake_45 ?_
              refine J_ifnullN 66 (by decide) dX0_canTake_47 ?_
              refine J_iload 6 rfl dX0_canTake_66 ?_
              refine J_if_eq 82 (by decide) dX0_canTake_68 (fun c408 => ?_) (fun c408 => ?_)
              · exact absurd c408 (by decide)
              refine J_aload_n 1 rfl dX0_canTake_71 ?_
              refine J_iload 4 rfl dX0_canTake_72 ?_
              refine cv_0_29 (cells' := 0) (slots' := 0) dX0_canTake_74 (c_X5_mayHave (by assumption)) (n20 (by assumption)) ⟨by decide, by decide⟩ rfl rfl (by decide) (by decide) (Nat.le_of_ble_eq_true rfl) (fun _ _ r409 => ?_) (fun _ _ h => h.elim)
              obtain ⟨rfl, rfl⟩ := r409
              refine J_eq (st' := [.int (kb (mayF I a 2))]) rfl rfl rfl ?_
              refine J_topv (v' := .int 1) (by first | rfl | (rw [may_2]; rfl)) ?_
              refine J_if_eq 82 (by decide) dX0_canTake_77 (fun c410 => ?_) (fun c410 => ?_)
              · exact absurd c410 (by decide)
              refine J_iconst (v := 1) (by decide) dX0_canTake_80 ?_
              refine J_istore_n (lv' := [(0, .ref (ka S 3 0)), (1, .ref a), (2, .int v), (3, .int 1), (4, .int 2), (5, .null), (6, .int 1)]) (by decide) rfl dX0_canTake_81 ?_
              refine J_iinc (v := 3) (lv' := [(0, .ref (ka S 3 0)), (1, .ref a), (2, .int v), (3, .int 1), (4, .int 3), (5, .null), (6, .int 1)]) 4 rfl (by decide) (by decide) rfl dX0_canTake_82 ?_
              refine J_goto 5 (by decide) dX0_canTake_85 ?_
              refine J_iload 4 rfl dX0_canTake_5 ?_
              refine J_aload_n 0 rfl dX0_canTake_7 ?_
              refine gf_0_11 (n3 _) dX0_canTake_8 ?_
              refine J_alen (v := 3) 5 (n14 _) rfl rfl rfl dX0_canTake_11 ?_
              refine J_icmp_ge 88 (by decide) dX0_canTake_12 (fun c412 => ?_) (fun c412 => ?_)
              rotate_left
              · exact absurd (by decide) c412
              refine J_iload_n 2 rfl dX0_canTake_88 ?_
              refine J_if_eq 100 (by decide) dX0_canTake_89 (fun c413 => ?_) (fun c413 => ?_)
              · skip
                refine J_iconst (v := 0) (by decide) dX0_canTake_100 ?_
                exact J_ireturn rfl (by first | rfl | assumption | simp [kb_nar]) dX0_canTake_101 (⟨by (try simp only [kb_0, kb_1, kb_n0, kb_n1, decide_eq_false_iff_not, decide_eq_true_eq, ne_eq, Classical.not_not] at *); first | (simp [kb, kb_0, kb_1, vr_n, vr_s, takF, may_1, may_2, havF_n, havF_s, shF_none, shF_some, *]; done) | (simp [kb, kb_0, kb_1, vr_n, vr_s, takF, may_1, may_2, havF_n, havF_s, shF_none, shF_some, *] <;> grind), rfl⟩) (by omega) (by omega)
              · skip
                refine J_iload_n 3 rfl dX0_canTake_92 ?_
                refine J_if_eq 100 (by decide) dX0_canTake_93 (fun c414 => ?_) (fun c414 => ?_)
                · exact absurd c414 (by decide)
                refine J_iconst (v := 1) (by decide) dX0_canTake_96 ?_
                refine J_goto 101 (by decide) dX0_canTake_97 ?_
                exact J_ireturn rfl (by first | rfl | assumption | simp [kb_nar]) dX0_canTake_101 (⟨by (try simp only [kb_0, kb_1, kb_n0, kb_n1, decide_eq_false_iff_not, decide_eq_true_eq, ne_eq, Classical.not_not] at *); first | (simp [kb, kb_0, kb_1, vr_n, vr_s, takF, may_1, may_2, havF_n, havF_s, shF_none, shF_some, *]; done) | (simp [kb, kb_0, kb_1, vr_n, vr_s, takF, may_1, may_2, havF_n, havF_s, shF_none, shF_some, *] <;> grind), rfl⟩) (by omega) (by omega)
            · skip
              have ma407 : a407 ∈ LP := hsp _ _ (by decide) o406
              refine J_topv (v' := .ref a407) (by first | rfl | (rw [o406]; rfl)) ?_
              refine J_astore (lv' := [(0, .ref (ka S 3 0)), (1, .ref a), (2, .int v), (3, .int 1), (4, .int 2), (5, .ref a407), (6, .int 1)]) (by decide) rfl dX0_canTake_22 ?_
              refine J_aload 5 rfl dX0_canTake_24 ?_
              refine J_ifnull dX0_canTake_26 ?_
              refine J_aload_n 1 rfl dX0_canTake_29 ?_
              refine J_aload 5 rfl dX0_canTake_30 ?_
              refine cv_0_25 (cells' := 0) (slots' := 0) dX0_canTake_32 (c_X5_canBreakInOn (by assumption) (by assumption)) (n20 (by assumption)) ⟨by decide, by decide⟩ rfl rfl (by decide) (by decide) (Nat.le_of_ble_eq_true rfl) (fun _ _ r415 => ?_) (fun _ _ h => h.elim)
              obtain ⟨rfl, rfl⟩ := r415
              refine J_eq (st' := [.int (kb (brkF I a a407))]) rfl rfl rfl ?_
              refine J_if_eq 42 (by decide) dX0_canTake_35 (fun c416 => ?_) (fun c416 => ?_)
              · skip
                refine J_iconst (v := 0) (by decide) dX0_canTake_42 ?_
                refine J_istore (lv' := [(0, .ref (ka S 3 0)), (1, .ref a), (2, .int v), (3, .int 1), (4, .int 2), (5, .ref a407), (6, .int 0)]) (by decide) rfl dX0_canTake_43 ?_
                refine J_aload 5 rfl dX0_canTake_45 ?_
                refine J_ifnull dX0_canTake_47 ?_
                refine J_iload 6 rfl dX0_canTake_50 ?_
                refine J_if_ne 66 (by decide) dX0_canTake_52 (fun c417 => ?_) (fun c417 => ?_)
                · exact absurd (by decide) c417
                refine J_aload 5 rfl dX0_canTake_55 ?_
                refine J_iload_n 2 rfl dX0_canTake_57 ?_
                refine cv_0_21 (cells' := 0) (slots' := 0) dX0_canTake_58 (c_X5_sharesStationWith (by assumption)) (n20 (by assumption)) ⟨by decide, by decide⟩ rfl rfl (by decide) (by decide) (Nat.le_of_ble_eq_true rfl) (fun _ _ r418 => ?_) (fun _ _ h => h.elim)
                obtain ⟨rfl, rfl⟩ := r418
                refine J_eq (st' := [.int (kb (shrF I a407 v))]) rfl rfl rfl ?_
                refine J_if_eq 66 (by decide) dX0_canTake_61 (fun c419 => ?_) (fun c419 => ?_)
                · skip
                  refine J_iload 6 rfl dX0_canTake_66 ?_
                  refine J_if_eq 82 (by decide) dX0_canTake_68 (fun c420 => ?_) (fun c420 => ?_)
                  rotate_left
                  · exact absurd (by decide) c420
                  refine J_iinc (v := 3) (lv' := [(0, .ref (ka S 3 0)), (1, .ref a), (2, .int v), (3, .int 1), (4, .int 3), (5, .ref a407), (6, .int 0)]) 4 rfl (by decide) (by decide) rfl dX0_canTake_82 ?_
                  refine J_goto 5 (by decide) dX0_canTake_85 ?_
                  refine J_iload 4 rfl dX0_canTake_5 ?_
                  refine J_aload_n 0 rfl dX0_canTake_7 ?_
                  refine gf_0_11 (n3 _) dX0_canTake_8 ?_
                  refine J_alen (v := 3) 5 (n14 _) rfl rfl rfl dX0_canTake_11 ?_
                  refine J_icmp_ge 88 (by decide) dX0_canTake_12 (fun c422 => ?_) (fun c422 => ?_)
                  rotate_left
                  · exact absurd (by decide) c422
                  refine J_iload_n 2 rfl dX0_canTake_88 ?_
                  refine J_if_eq 100 (by decide) dX0_canTake_89 (fun c423 => ?_) (fun c423 => ?_)
                  · skip
                    refine J_iconst (v := 0) (by decide) dX0_canTake_100 ?_
                    exact J_ireturn rfl (by first | rfl | assumption | simp [kb_nar]) dX0_canTake_101 (⟨by (try simp only [kb_0, kb_1, kb_n0, kb_n1, decide_eq_false_iff_not, decide_eq_true_eq, ne_eq, Classical.not_not] at *); first | (simp [kb, kb_0, kb_1, vr_n, vr_s, takF, may_1, may_2, havF_n, havF_s, shF_none, shF_some, *]; done) | (simp [kb, kb_0, kb_1, vr_n, vr_s, takF, may_1, may_2, havF_n, havF_s, shF_none, shF_some, *] <;> grind), rfl⟩) (by omega) (by omega)
                  · skip
                    refine J_iload_n 3 rfl dX0_canTake_92 ?_
                    refine J_if_eq 100 (by decide) dX0_canTake_93 (fun c424 => ?_) (fun c424 => ?_)
                    · exact absurd c424 (by decide)
                    refine J_iconst (v := 1) (by decide) dX0_canTake_96 ?_
                    refine J_goto 101 (by decide) dX0_canTake_97 ?_
                    exact J_ireturn rfl (by first | rfl | assumption | simp [kb_nar]) dX0_canTake_101 (⟨by (try simp only [kb_0, kb_1, kb_n0, kb_n1, decide_eq_false_iff_not, decide_eq_true_eq, ne_eq, Classical.not_not] at *); first | (simp [kb, kb_0, kb_1, vr_n, vr_s, takF, may_1, may_2, havF_n, havF_s, shF_none, shF_some, *]; done) | (simp [kb, kb_0, kb_1, vr_n, vr_s, takF, may_1, may_2, havF_n, havF_s, shF_none, shF_some, *] <;> grind), rfl⟩) (by omega) (by omega)
                · skip
                  refine J_iconst (v := 0) (by decide) dX0_canTake_64 ?_
                  exact J_ireturn rfl (by first | rfl | assumption | simp [kb_nar]) dX0_canTake_65 (⟨by (try simp only [kb_0, kb_1, kb_n0, kb_n1, decide_eq_false_iff_not, decide_eq_true_eq, ne_eq, Classical.not_not] at *); first | (simp [kb, kb_0, kb_1, vr_n, vr_s, takF, may_1, may_2, havF_n, havF_s, shF_none, shF_some, *]; done) | (simp [kb, kb_0, kb_1, vr_n, vr_s, takF, may_1, may_2, havF_n, havF_s, shF_none, shF_some, *] <;> grind), rfl⟩) (by omega) (by omega)
              · skip
                refine J_iconst (v := 1) (by decide) dX0_canTake_38 ?_
                refine J_goto 43 (by decide) dX0_canTake_39 ?_
                refine J_istore (lv' := [(0, .ref (ka S 3 0)), (1, .ref a), (2, .int v), (3, .int 1), (4, .int 2), (5, .ref a407), (6, .int 1)]) (by decide) rfl dX0_canTake_43 ?_
                refine J_aload 5 rfl dX0_canTake_45 ?_
                refine J_ifnull dX0_canTake_47 ?_
                refine J_iload 6 rfl dX0_canTake_50 ?_
                refine J_if_ne 66 (by decide) dX0_canTake_52 (fun c425 => ?_) (fun c425 => ?_)
                rotate_left
                · exact absurd c425 (by decide)
                refine J_iload 6 rfl dX0_canTake_66 ?_
                refine J_if_eq 82 (by decide) dX0_canTake_68 (fun c426 => ?_) (fun c426 => ?_)
                · exact absurd c426 (by decide)
                refine J_aload_n 1 rfl dX0_canTake_71 ?_
                refine J_iload 4 rfl dX0_canTake_72 ?_
                refine cv_0_29 (cells' := 0) (slots' := 0) dX0_canTake_74 (c_X5_mayHave (by assumption)) (n20 (by assumption)) ⟨by decide, by decide⟩ rfl rfl (by decide) (by decide) (Nat.le_of_ble_eq_true rfl) (fun _ _ r427 => ?_) (fun _ _ h => h.elim)
                obtain ⟨rfl, rfl⟩ := r427
                refine J_eq (st' := [.int (kb (mayF I a 2))]) rfl rfl rfl ?_
                refine J_topv (v' := .int 1) (by first | rfl | (rw [may_2]; rfl)) ?_
                refine J_if_eq 82 (by decide) dX0_canTake_77 (fun c428 => ?_) (fun c428 => ?_)
                · exact absurd c428 (by decide)
                refine J_iconst (v := 1) (by decide) dX0_canTake_80 ?_
                refine J_istore_n (lv' := [(0, .ref (ka S 3 0)), (1, .ref a), (2, .int v), (3, .int 1), (4, .int 2), (5, .ref a407), (6, .int 1)]) (by decide) rfl dX0_canTake_81 ?_
                refine J_iinc (v := 3) (lv' := [(0, .ref (ka S 3 0)), (1, .ref a), (2, .int v), (3, .int 1), (4, .int 3), (5, .ref a407), (6, .int 1)]) 4 rfl (by decide) (by decide) rfl dX0_canTake_82 ?_
                refine J_goto 5 (by decide) dX0_canTake_85 ?_
                refine J_iload 4 rfl dX0_canTake_5 ?_
                refine J_aload_n 0 rfl dX0_canTake_7 ?_
                refine gf_0_11 (n3 _) dX0_canTake_8 ?_
                refine J_alen (v := 3) 5 (n14 _) rfl rfl rfl dX0_canTake_11 ?_
                refine J_icmp_ge 88 (by decide) dX0_canTake_12 (fun c430 => ?_) (fun c430 => ?_)
                rotate_left
                · exact absurd (by decide) c430
                refine J_iload_n 2 rfl dX0_canTake_88 ?_
                refine J_if_eq 100 (by decide) dX0_canTake_89 (fun c431 => ?_) (fun c431 => ?_)
                · skip
                  refine J_iconst (v := 0) (by decide) dX0_canTake_100 ?_
                  exact J_ireturn rfl (by first | rfl | assumption | simp [kb_nar]) dX0_canTake_101 (⟨by (try simp only [kb_0, kb_1, kb_n0, kb_n1, decide_eq_false_iff_not, decide_eq_true_eq, ne_eq, Classical.not_not] at *); first | (simp [kb, kb_0, kb_1, vr_n, vr_s, takF, may_1, may_2, havF_n, havF_s, shF_none, shF_some, *]; done) | (simp [kb, kb_0, kb_1, vr_n, vr_s, takF, may_1, may_2, havF_n, havF_s, shF_none, shF_some, *] <;> grind), rfl⟩) (by omega) (by omega)
                · skip
                  refine J_iload_n 3 rfl dX0_canTake_92 ?_
                  refine J_if_eq 100 (by decide) dX0_canTake_93 (fun c432 => ?_) (fun c432 => ?_)
                  · exact absurd c432 (by decide)
                  refine J_iconst (v := 1) (by decide) dX0_canTake_96 ?_
                  refine J_goto 101 (by decide) dX0_canTake_97 ?_
                  exact J_ireturn rfl (by first | rfl | assumption | simp [kb_nar]) dX0_canTake_101 (⟨by (try simp only [kb_0, kb_1, kb_n0, kb_n1, decide_eq_false_iff_not, decide_eq_true_eq, ne_eq, Classical.not_not] at *); first | (simp [kb, kb_0, kb_1, vr_n, vr_s, takF, may_1, may_2, havF_n, havF_s, shF_none, shF_some, *]; done) | (simp [kb, kb_0, kb_1, vr_n, vr_s, takF, may_1, may_2, havF_n, havF_s, shF_none, shF_some, *] <;> grind), rfl⟩) (by omega) (by omega)
      · skip
        refine J_iconst (v := 1) (by decide) dX0_canTake_80 ?_
        refine J_istore_n (lv' := [(0, .ref (ka S 3 0)), (1, .ref a), (2, .int v), (3, .int 1), (4, .int 0), (5, .ref a3), (6, .int 1)]) (by decide) rfl dX0_canTake_81 ?_
        refine J_iinc (v := 1) (lv' := [(0, .ref (ka S 3 0)), (1, .ref a), (2, .int v), (3, .int 1), (4, .int 1), (5, .ref a3), (6, .int 1)]) 4 rfl (by decide) (by decide) rfl dX0_canTake_82 ?_
        refine J_goto 5 (by decide) dX0_canTake_85 ?_
        refine J_iload 4 rfl dX0_canTake_5 ?_
        refine J_aload_n 0 rfl dX0_canTake_7 ?_
        refine gf_0_11 (n3 _) dX0_canTake_8 ?_
        refine J_alen (v := 3) 5 (n14 _) rfl rfl rfl dX0_canTake_11 ?_
        refine J_icmp_ge 88 (by decide) dX0_canTake_12 (fun c434 => ?_) (fun c434 => ?_)
        · exact absurd c434 (by decide)
        refine J_aload_n 0 rfl dX0_canTake_15 ?_
        refine gf_0_11 (n3 _) dX0_canTake_16 ?_
        refine J_iload 4 rfl dX0_canTake_19 ?_
        refine J_aald 1 5 (n14 _) rfl rfl (vp_in_iff.mpr (by decide)) (by decide) dX0_canTake_21 ?_
        rcases opt_split (R 14 0 1) with o435 | ⟨a436, o435⟩
        · skip
          refine J_topv (v' := .null) (by first | rfl | (rw [o435]; rfl)) ?_
          refine J_astoreN (lv' := [(0, .ref (ka S 3 0)), (1, .ref a), (2, .int v), (3, .int 1), (4, .int 1), (5, .null), (6, .int 1)]) (by decide) rfl dX0_canTake_22 ?_
          refine J_aloadN 5 rfl dX0_canTake_24 ?_
          refine J_ifnullN 38 (by decide) dX0_canTake_26 ?_
          refine J_iconst (v := 1) (by decide) dX0_canTake_38 ?_
          refine J_goto 43 (by decide) dX0_canTake_39 ?_
          refine J_istore (lv' := [(0, .ref (ka S 3 0)), (1, .ref a), (2, .int v), (3, .int 1), (4, .int 1), (5, .null), (6, .int 1)]) (by decide) rfl dX0_canTake_43 ?_
          refine J_aloadN 5 rfl dX0_canTake_45 ?_
          refine J_ifnullN 66 (by decide) dX0_canTake_47 ?_
          refine J_iload 6 rfl dX0_canTake_66 ?_
          refine J_if_eq 82 (by decide) dX0_canTake_68 (fun c437 => ?_) (fun c437 => ?_)
          · exact absurd c437 (by decide)
          refine J_aload_n 1 rfl dX0_canTake_71 ?_
          refine J_iload 4 rfl dX0_canTake_72 ?_
          refine cv_0_29 (cells' := 0) (slots' := 0) dX0_canTake_74 (c_X5_mayHave (by assumption)) (n20 (by assumption)) ⟨by decide, by decide⟩ rfl rfl (by decide) (by decide) (Nat.le_of_ble_eq_true rfl) (fun _ _ r438 => ?_) (fun _ _ h => h.elim)
          obtain ⟨rfl, rfl⟩ := r438
          refine J_eq (st' := [.int (kb (mayF I a 1))]) rfl rfl rfl ?_
          refine J_topv (v' := .int 1) (by first | rfl | (rw [may_1]; rfl)) ?_
          refine J_if_eq 82 (by decide) dX0_canTake_77 (fun c439 => ?_) (fun c439 => ?_)
          · exact absurd c439 (by decide)
          refine J_iconst (v := 1) (by decide) dX0_canTake_80 ?_
          refine J_istore_n (lv' := [(0, .ref (ka S 3 0)), (1, .ref a), (2, .int v), (3, .int 1), (4, .int 1), (5, .null), (6, .int 1)]) (by decide) rfl dX0_canTake_81 ?_
          refine J_iinc (v := 2) (lv' := [(0, .ref (ka S 3 0)), (1, .ref a), (2, .int v), (3, .int 1), (4, .int 2), (5, .null), (6, .int 1)]) 4 rfl (by decide) (by decide) rfl dX0_canTake_82 ?_
          refine J_goto 5 (by decide) dX0_canTake_85 ?_
          refine J_iload 4 rfl dX0_canTake_5 ?_
          refine J_aload_n 0 rfl dX0_canTake_7 ?_
          refine gf_0_11 (n3 _) dX0_canTake_8 ?_
          refine J_alen (v := 3) 5 (n14 _) rfl rfl rfl dX0_canTake_11 ?_
          refine J_icmp_ge 88 (by decide) dX0_canTake_12 (fun c441 => ?_) (fun c441 => ?_)
          · exact absurd c441 (by decide)
          refine J_aload_n 0 rfl dX0_canTake_15 ?_
          refine gf_0_11 (n3 _) dX0_canTake_16 ?_
          refine J_iload 4 rfl dX0_canTake_19 ?_
          refine J_aald 2 5 (n14 _) rfl rfl (vp_in_iff.mpr (by decide)) (by decide) dX0_canTake_21 ?_
          rcases opt_split (R 14 0 2) with o442 | ⟨a443, o442⟩
          · skip
            refine J_topv (v' := .null) (by first | rfl | (rw [o442]; rfl)) ?_
            refine J_astoreN (lv' := [(0, .ref (ka S 3 0)), (1, .ref a), (2, .int v), (3, .int 1), (4, .int 2), (5, .null), (6, .int 1)]) (by decide) rfl dX0_canTake_22 ?_
            refine J_aloadN 5 rfl dX0_canTake_24 ?_
            refine J_ifnullN 38 (by decide) dX0_canTake_26 ?_
            refine J_iconst (v := 1) (by decide) dX0_canTake_38 ?_
            refine J_goto 43 (by decide) dX0_canTake_39 ?_
            refine J_istore (lv' := [(0, .ref (ka S 3 0)), (1, .ref a), (2, .int v), (3, .int 1), (4, .int 2), (5, .null), (6, .int 1)]) (by decide) rfl dX0_canTake_43 ?_
            refine J_aloadN 5 rfl dX0_canTake_45 ?_
            refine J_ifnullN 66 (by decide) dX0_canTake_47 ?_
            refine J_iload 6 rfl dX0_canTake_66 ?_
            refine J_if_eq 82 (by decide) dX0_canTake_68 (fun c444 => ?_) (fun c444 => ?_)
            · exact absurd c444 (by decide)
            refine J_aload_n 1 rfl dX0_canTake_71 ?_
            refine J_iload 4 rfl dX0_canTake_72 ?_
            refine cv_0_29 (cells' := 0) (slots' := 0) dX0_canTake_74 (c_X5_mayHave (by assumption)) (n20 (by assumption)) ⟨by decide, by decide⟩ rfl rfl (by decide) (by decide) (Nat.le_of_ble_eq_true rfl) (fun _ _ r445 => ?_) (fun _ _ h => h.elim)
            obtain ⟨rfl, rfl⟩ := r445
            refine J_eq (st' := [.int (kb (mayF I a 2))]) rfl rfl rfl ?_
            refine J_topv (v' := .int 1) (by first | rfl | (rw [may_2]; rfl)) ?_
            refine J_if_eq 82 (by decide) dX0_canTake_77 (fun c446 => ?_) (fun c446 => ?_)
            · exact absurd c446 (by decide)
            refine J_iconst (v := 1) (by decide) dX0_canTake_80 ?_
            refine J_istore_n (lv' := [(0, .ref (ka S 3 0)), (1, .ref a), (2, .int v), (3, .int 1), (4, .int 2), (5, .null), (6, .int 1)]) (by decide) rfl dX0_canTake_81 ?_
            refine J_iinc (v := 3) (lv' := [(0, .ref (ka S 3 0)), (1, .ref a), (2, .int v), (3, .int 1), (4, .int 3), (5, .null), (6, .int 1)]) 4 rfl (by decide) (by decide) rfl dX0_canTake_82 ?_
            refine J_goto 5 (by decide) dX0_canTake_85 ?_
            refine J_iload 4 rfl dX0_canTake_5 ?_
            refine J_aload_n 0 rfl dX0_canTake_7 ?_
            refine gf_0_11 (n3 _) dX0_canTake_8 ?_
            refine J_alen (v := 3) 5 (n14 _) rfl rfl rfl dX0_canTake_11 ?_
            refine J_icmp_ge 88 (by decide) dX0_canTake_12 (fun c448 => ?_) (fun c448 => ?_)
            rotate_left
            · exact absurd (by decide) c448
            refine J_iload_n 2 rfl dX0_canTake_88 ?_
            refine J_if_eq 100 (by decide) dX0_canTake_89 (fun c449 => ?_) (fun c449 => ?_)
            · skip
              refine J_iconst (v := 0) (by decide) dX0_canTake_100 ?_
              exact J_ireturn rfl (by first | rfl | assumption | simp [kb_nar]) dX0_canTake_101 (⟨by (try simp only [kb_0, kb_1, kb_n0, kb_n1, decide_eq_false_iff_not, decide_eq_true_eq, ne_eq, Classical.not_not] at *); first | (simp [kb, kb_0, kb_1, vr_n, vr_s, takF, may_1, may_2, havF_n, havF_s, shF_none, shF_some, *]; done) | (simp [kb, kb_0, kb_1, vr_n, vr_s, takF, may_1, may_2, havF_n, havF_s, shF_none, shF_some, *] <;> grind), rfl⟩) (by omega) (by omega)
            · skip
              refine J_iload_n 3 rfl dX0_canTake_92 ?_
              refine J_if_eq 100 (by decide) dX0_canTake_93 (fun c450 => ?_) (fun c450 => ?_)
              · exact absurd c450 (by decide)
              refine J_iconst (v := 1) (by decide) dX0_canTake_96 ?_
              refine J_goto 101 (by decide) dX0_canTake_97 ?_
              exact J_ireturn rfl (by first | rfl | assumption | simp [kb_nar]) dX0_canTake_101 (⟨by (try simp only [kb_0, kb_1, kb_n0, kb_n1, decide_eq_false_iff_not, decide_eq_true_eq, ne_eq, Classical.not_not] at *); first | (simp [kb, kb_0, kb_1, vr_n, vr_s, takF, may_1, may_2, havF_n, havF_s, shF_none, shF_some, *]; done) | (simp [kb, kb_0, kb_1, vr_n, vr_s, takF, may_1, may_2, havF_n, havF_s, shF_none, shF_some, *] <;> grind), rfl⟩) (by omega) (by omega)
          · skip
            have ma443 : a443 ∈ LP := hsp _ _ (by decide) o442
            refine J_topv (v' := .ref a443) (by first | rfl | (rw [o442]; rfl)) ?_
            refine J_astore (lv' := [(0, .ref (ka S 3 0)), (1, .ref a), (2, .int v), (3, .int 1), (4, .int 2), (5, .ref a443), (6, .int 1)]) (by decide) rfl dX0_canTake_22 ?_
            refine J_aload 5 rfl dX0_canTake_24 ?_
            refine J_ifnull dX0_canTake_26 ?_
            refine J_aload_n 1 rfl dX0_canTake_29 ?_
            refine J_aload 5 rfl dX0_canTake_30 ?_
            refine cv_0_25 (cells' := 0) (slots' := 0) dX0_canTake_32 (c_X5_canBreakInOn (by assumption) (by assumption)) (n20 (by assumption)) ⟨by decide, by decide⟩ rfl rfl (by decide) (by decide) (Nat.le_of_ble_eq_true rfl) (fun _ _ r451 => ?_) (fun _ _ h => h.elim)
            obtain ⟨rfl, rfl⟩ := r451
            refine J_eq (st' := [.int (kb (brkF I a a443))]) rfl rfl rfl ?_
            refine J_if_eq 42 (by decide) dX0_canTake_35 (fun c452 => ?_) (fun c452 => ?_)
            · skip
              refine J_iconst (v := 0) (by decide) dX0_canTake_42 ?_
              refine J_istore (lv' := [(0, .ref (ka S 3 0)), (1, .ref a), (2, .int v), (3, .int 1), (4, .int 2), (5, .ref a443), (6, .int 0)]) (by decide) rfl dX0_canTake_43 ?_
              refine J_aload 5 rfl dX0_canTake_45 ?_
              refine J_ifnull dX0_canTake_47 ?_
              refine J_iload 6 rfl dX0_canTake_50 ?_
              refine J_if_ne 66 (by decide) dX0_canTake_52 (fun c453 => ?_) (fun c453 => ?_)
              · exact absurd (by decide) c453
              refine J_aload 5 rfl dX0_canTake_55 ?_
              refine J_iload_n 2 rfl dX0_canTake_57 ?_
              refine cv_0_21 (cells' := 0) (slots' := 0) dX0_canTake_58 (c_X5_sharesStationWith (by assumption)) (n20 (by assumption)) ⟨by decide, by decide⟩ rfl rfl (by decide) (by decide) (Nat.le_of_ble_eq_true rfl) (fun _ _ r454 => ?_) (fun _ _ h => h.elim)
              obtain ⟨rfl, rfl⟩ := r454
              refine J_eq (st' := [.int (kb (shrF I a443 v))]) rfl rfl rfl ?_
              refine J_if_eq 66 (by decide) dX0_canTake_61 (fun c455 => ?_) (fun c455 => ?_)
              · skip
                refine J_iload 6 rfl dX0_canTake_66 ?_
                refine J_if_eq 82 (by decide) dX0_canTake_68 (fun c456 => ?_) (fun c456 => ?_)
                rotate_left
                · exact absurd (by decide) c456
                refine J_iinc (v := 3) (lv' := [(0, .ref (ka S 3 0)), (1, .ref a), (2, .int v), (3, .int 1), (4, .int 3), (5, .ref a443), (6, .int 0)]) 4 rfl (by decide) (by decide) rfl dX0_canTake_82 ?_
                refine J_goto 5 (by decide) dX0_canTake_85 ?_
                refine J_iload 4 rfl dX0_canTake_5 ?_
                refine J_aload_n 0 rfl dX0_canTake_7 ?_
                refine gf_0_11 (n3 _) dX0_canTake_8 ?_
                refine J_alen (v := 3) 5 (n14 _) rfl rfl rfl dX0_canTake_11 ?_
                refine J_icmp_ge 88 (by decide) dX0_canTake_12 (fun c458 => ?_) (fun c458 => ?_)
                rotate_left
                · exact absurd (by decide) c458
                refine J_iload_n 2 rfl dX0_canTake_88 ?_
                refine J_if_eq 100 (by decide) dX0_canTake_89 (fun c459 => ?_) (fun c459 => ?_)
                · skip
                  refine J_iconst (v := 0) (by decide) dX0_canTake_100 ?_
                  exact J_ireturn rfl (by first | rfl | assumption | simp [kb_nar]) dX0_canTake_101 (⟨by (try simp only [kb_0, kb_1, kb_n0, kb_n1, decide_eq_false_iff_not, decide_eq_true_eq, ne_eq, Classical.not_not] at *); first | (simp [kb, kb_0, kb_1, vr_n, vr_s, takF, may_1, may_2, havF_n, havF_s, shF_none, shF_some, *]; done) | (simp [kb, kb_0, kb_1, vr_n, vr_s, takF, may_1, may_2, havF_n, havF_s, shF_none, shF_some, *] <;> grind), rfl⟩) (by omega) (by omega)
                · skip
                  refine J_iload_n 3 rfl dX0_canTake_92 ?_
                  refine J_if_eq 100 (by decide) dX0_canTake_93 (fun c460 => ?_) (fun c460 => ?_)
                  · exact absurd c460 (by decide)
                  refine J_iconst (v := 1) (by decide) dX0_canTake_96 ?_
                  refine J_goto 101 (by decide) dX0_canTake_97 ?_
                  exact J_ireturn rfl (by first | rfl | assumption | simp [kb_nar]) dX0_canTake_101 (⟨by (try simp only [kb_0, kb_1, kb_n0, kb_n1, decide_eq_false_iff_not, decide_eq_true_eq, ne_eq, Classical.not_not] at *); first | (simp [kb, kb_0, kb_1, vr_n, vr_s, takF, may_1, may_2, havF_n, havF_s, shF_none, shF_some, *]; done) | (simp [kb, kb_0, kb_1, vr_n, vr_s, takF, may_1, may_2, havF_n, havF_s, shF_none, shF_some, *] <;> grind), rfl⟩) (by omega) (by omega)
              · skip
                refine J_iconst (v := 0) (by decide) dX0_canTake_64 ?_
                exact J_ireturn rfl (by first | rfl | assumption | simp [kb_nar]) dX0_canTake_65 (⟨by (try simp only [kb_0, kb_1, kb_n0, kb_n1, decide_eq_false_iff_not, decide_eq_true_eq, ne_eq, Classical.not_not] at *); first | (simp [kb, kb_0, kb_1, vr_n, vr_s, takF, may_1, may_2, havF_n, havF_s, shF_none, shF_some, *]; done) | (simp [kb, kb_0, kb_1, vr_n, vr_s, takF, may_1, may_2, havF_n, havF_s, shF_none, shF_some, *] <;> grind), rfl⟩) (by omega) (by omega)
            · skip
              refine J_iconst (v := 1) (by decide) dX0_canTake_38 ?_
              refine J_goto 43 (by decide) dX0_canTake_39 ?_
              refine J_istore (lv' := [(0, .ref (ka S 3 0)), (1, .ref a), (2, .int v), (3, .int 1), (4, .int 2), (5, .ref a443), (6, .int 1)]) (by decide) rfl dX0_canTake_43 ?_
              refine J_aload 5 rfl dX0_canTake_45 ?_
              refine J_ifnull dX0_canTake_47 ?_
              refine J_iload 6 rfl dX0_canTake_50 ?_
              refine J_if_ne 66 (by decide) dX0_canTake_52 (fun c461 => ?_) (fun c461 => ?_)
              rotate_left
              · exact absurd c461 (by decide)
              refine J_iload 6 rfl dX0_canTake_66 ?_
              refine J_if_eq 82 (by decide) dX0_canTake_68 (fun c462 => ?_) (fun c462 => ?_)
              · exact absurd c462 (by decide)
              refine J_aload_n 1 rfl dX0_canTake_71 ?_
              refine J_iload 4 rfl dX0_canTake_72 ?_
              refine cv_0_29 (cells' := 0) (slots' := 0) dX0_canTake_74 (c_X5_mayHave (by assumption)) (n20 (by assumption)) ⟨by decide, by decide⟩ rfl rfl (by decide) (by decide) (Nat.le_of_ble_eq_true rfl) (fun _ _ r463 => ?_) (fun _ _ h => h.elim)
              obtain ⟨rfl, rfl⟩ := r463
              refine J_eq (st' := [.int (kb (mayF I a 2))]) rfl rfl rfl ?_
              refine J_topv (v' := .int 1) (by first | rfl | (rw [may_2]; rfl)) ?_
              refine J_if_eq 82 (by decide) dX0_canTake_77 (fun c464 => ?_) (fun c464 => ?_)
              · exact absurd c464 (by decide)
              refine J_iconst (v := 1) (by decide) dX0_canTake_80 ?_
              refine J_istore_n (lv' := [(0, .ref (ka S 3 0)), (1, .ref a), (2, .int v), (3, .int 1), (4, .int 2), (5, .ref a443), (6, .int 1)]) (by decide) rfl dX0_canTake_81 ?_
              refine J_iinc (v := 3) (lv' := [(0, .ref (ka S 3 0)), (1, .ref a), (2, .int v), (3, .int 1), (4, .int 3), (5, .ref a443), (6, .int 1)]) 4 rfl (by decide) (by decide) rfl dX0_canTake_82 ?_
              refine J_goto 5 (by decide) dX0_canTake_85 ?_
              refine J_iload 4 rfl dX0_canTake_5 ?_
              refine J_aload_n 0 rfl dX0_canTake_7 ?_
              refine gf_0_11 (n3 _) dX0_canTake_8 ?_
              refine J_alen (v := 3) 5 (n14 _) rfl rfl rfl dX0_canTake_11 ?_
              refine J_icmp_ge 88 (by decide) dX0_canTake_12 (fun c466 => ?_) (fun c466 => ?_)
              rotate_left
              · exact absurd (by decide) c466
              refine J_iload_n 2 rfl dX0_canTake_88 ?_
              refine J_if_eq 100 (by decide) dX0_canTake_89 (fun c467 => ?_) (fun c467 => ?_)
              · skip
                refine J_iconst (v := 0) (by decide) dX0_canTake_100 ?_
                exact J_ireturn rfl (by first | rfl | assumption | simp [kb_nar]) dX0_canTake_101 (⟨by (try simp only [kb_0, kb_1, kb_n0, kb_n1, decide_eq_false_iff_not, decide_eq_true_eq, ne_eq, Classical.not_not] at *); first | (simp [kb, kb_0, kb_1, vr_n, vr_s, takF, may_1, may_2, havF_n, havF_s, shF_none, shF_some, *]; done) | (simp [kb, kb_0, kb_1, vr_n, vr_s, takF, may_1, may_2, havF_n, havF_s, shF_none, shF_some, *] <;> grind), rfl⟩) (by omega) (by omega)
              · skip
                refine J_iload_n 3 rfl dX0_canTake_92 ?_
                refine J_if_eq 100 (by decide) dX0_canTake_93 (fun c468 => ?_) (fun c468 => ?_)
                · exact absurd c468 (by decide)
                refine J_iconst (v := 1) (by decide) dX0_canTake_96 ?_
                refine J_goto 101 (by decide) dX0_canTake_97 ?_
                exact J_ireturn rfl (by first | rfl | assumption | simp [kb_nar]) dX0_canTake_101 (⟨by (try simp only [kb_0, kb_1, kb_n0, kb_n1, decide_eq_false_iff_not, decide_eq_true_eq, ne_eq, Classical.not_not] at *); first | (simp [kb, kb_0, kb_1, vr_n, vr_s, takF, may_1, may_2, havF_n, havF_s, shF_none, shF_some, *]; done) | (simp [kb, kb_0, kb_1, vr_n, vr_s, takF, may_1, may_2, havF_n, havF_s, shF_none, shF_some, *] <;> grind), rfl⟩) (by omega) (by omega)
        · skip
          have ma436 : a436 ∈ LP := hsp _ _ (by decide) o435
          refine J_topv (v' := .ref a436) (by first | rfl | (rw [o435]; rfl)) ?_
          refine J_astore (lv' := [(0, .ref (ka S 3 0)), (1, .ref a), (2, .int v), (3, .int 1), (4, .int 1), (5, .ref a436), (6, .int 1)]) (by decide) rfl dX0_canTake_22 ?_
          refine J_aload 5 rfl dX0_canTake_24 ?_
          refine J_ifnull dX0_canTake_26 ?_
          refine J_aload_n 1 rfl dX0_canTake_29 ?_
          refine J_aload 5 rfl dX0_canTake_30 ?_
          refine cv_0_25 (cells' := 0) (slots' := 0) dX0_canTake_32 (c_X5_canBreakInOn (by assumption) (by assumption)) (n20 (by assumption)) ⟨by decide, by decide⟩ rfl rfl (by decide) (by decide) (Nat.le_of_ble_eq_true rfl) (fun _ _ r469 => ?_) (fun _ _ h => h.elim)
          obtain ⟨rfl, rfl⟩ := r469
          refine J_eq (st' := [.int (kb (brkF I a a436))]) rfl rfl rfl ?_
          refine J_if_eq 42 (by decide) dX0_canTake_35 (fun c470 => ?_) (fun c470 => ?_)
          · skip
            refine J_iconst (v := 0) (by decide) dX0_canTake_42 ?_
            refine J_istore (lv' := [(0, .ref (ka S 3 0)), (1, .ref a), (2, .int v), (3, .int 1), (4, .int 1), (5, .ref a436), (6, .int 0)]) (by decide) rfl dX0_canTake_43 ?_
            refine J_aload 5 rfl dX0_canTake_45 ?_
            refine J_ifnull dX0_canTake_47 ?_
            refine J_iload 6 rfl dX0_canTake_50 ?_
            refine J_if_ne 66 (by decide) dX0_canTake_52 (fun c471 => ?_) (fun c471 => ?_)
            · exact absurd (by decide) c471
            refine J_aload 5 rfl dX0_canTake_55 ?_
            refine J_iload_n 2 rfl dX0_canTake_57 ?_
            refine cv_0_21 (cells' := 0) (slots' := 0) dX0_canTake_58 (c_X5_sharesStationWith (by assumption)) (n20 (by assumption)) ⟨by decide, by decide⟩ rfl rfl (by decide) (by decide) (Nat.le_of_ble_eq_true rfl) (fun _ _ r472 => ?_) (fun _ _ h => h.elim)
            obtain ⟨rfl, rfl⟩ := r472
            refine J_eq (st' := [.int (kb (shrF I a436 v))]) rfl rfl rfl ?_
            refine J_if_eq 66 (by decide) dX0_canTake_61 (fun c473 => ?_) (fun c473 => ?_)
            · skip
              refine J_iload 6 rfl dX0_canTake_66 ?_
              refine J_if_eq 82 (by decide) dX0_canTake_68 (fun c474 => ?_) (fun c474 => ?_)
              rotate_left
              · exact absurd (by decide) c474
              refine J_iinc (v := 2) (lv' := [(0, .ref (ka S 3 0)), (1, .ref a), (2, .int v), (3, .int 1), (4, .int 2), (5, .ref a436), (6, .int 0)]) 4 rfl (by decide) (by decide) rfl dX0_canTake_82 ?_
              refine J_goto 5 (by decide) dX0_canTake_85 ?_
              refine J_iload 4 rfl dX0_canTake_5 ?_
              refine J_aload_n 0 rfl dX0_canTake_7 ?_
              refine gf_0_11 (n3 _) dX0_canTake_8 ?_
              refine J_alen (v := 3) 5 (n14 _) rfl rfl rfl dX0_canTake_11 ?_
              refine J_icmp_ge 88 (by decide) dX0_canTake_12 (fun c476 => ?_) (fun c476 => ?_)
              · exact absurd c476 (by decide)
              refine J_aload_n 0 rfl dX0_canTake_15 ?_
              refine gf_0_11 (n3 _) dX0_canTake_16 ?_
              refine J_iload 4 rfl dX0_canTake_19 ?_
              refine J_aald 2 5 (n14 _) rfl rfl (vp_in_iff.mpr (by decide)) (by decide) dX0_canTake_21 ?_
              rcases opt_split (R 14 0 2) with o477 | ⟨a478, o477⟩
              · skip
                refine J_topv (v' := .null) (by first | rfl | (rw [o477]; rfl)) ?_
                refine J_astoreN (lv' := [(0, .ref (ka S 3 0)), (1, .ref a), (2, .int v), (3, .int 1), (4, .int 2), (5, .null), (6, .int 0)]) (by decide) rfl dX0_canTake_22 ?_
                refine J_aloadN 5 rfl dX0_canTake_24 ?_
                refine J_ifnullN 38 (by decide) dX0_canTake_26 ?_
                refine J_iconst (v := 1) (by decide) dX0_canTake_38 ?_
                refine J_goto 43 (by decide) dX0_canTake_39 ?_
                refine J_istore (lv' := [(0, .ref (ka S 3 0)), (1, .ref a), (2, .int v), (3, .int 1), (4, .int 2), (5, .null), (6, .int 1)]) (by decide) rfl dX0_canTake_43 ?_
                refine J_aloadN 5 rfl dX0_canTake_45 ?_
                refine J_ifnullN 66 (by decide) dX0_canTake_47 ?_
                refine J_iload 6 rfl dX0_canTake_66 ?_
                refine J_if_eq 82 (by decide) dX0_canTake_68 (fun c479 => ?_) (fun c479 => ?_)
                · exact absurd c479 (by decide)
                refine J_aload_n 1 rfl dX0_canTake_71 ?_
                refine J_iload 4 rfl dX0_canTake_72 ?_
                refine cv_0_29 (cells' := 0) (slots' := 0) dX0_canTake_74 (c_X5_mayHave (by assumption)) (n20 (by assumption)) ⟨by decide, by decide⟩ rfl rfl (by decide) (by decide) (Nat.le_of_ble_eq_true rfl) (fun _ _ r480 => ?_) (fun _ _ h => h.elim)
                obtain ⟨rfl, rfl⟩ := r480
                refine J_eq (st' := [.int (kb (mayF I a 2))]) rfl rfl rfl ?_
                refine J_topv (v' := .int 1) (by first | rfl | (rw [may_2]; rfl)) ?_
                refine J_if_eq 82 (by decide) dX0_canTake_77 (fun c481 => ?_) (fun c481 => ?_)
                · exact absurd c481 (by decide)
                refine J_iconst (v := 1) (by decide) dX0_canTake_80 ?_
                refine J_istore_n (lv' := [(0, .ref (ka S 3 0)), (1, .ref a), (2, .int v), (3, .int 1), (4, .int 2), (5, .null), (6, .int 1)]) (by decide) rfl dX0_canTake_81 ?_
                refine J_iinc (v := 3) (lv' := [(0, .ref (ka S 3 0)), (1, .ref a), (2, .int v), (3, .int 1), (4, .int 3), (5, .null), (6, .int 1)]) 4 rfl (by decide) (by decide) rfl dX0_canTake_82 ?_
                refine J_goto 5 (by decide) dX0_canTake_85 ?_
                refine J_iload 4 rfl dX0_canTake_5 ?_
                refine J_aload_n 0 rfl dX0_canTake_7 ?_
                refine gf_0_11 (n3 _) dX0_canTake_8 ?_
                refine J_alen (v := 3) 5 (n14 _) rfl rfl rfl dX0_canTake_11 ?_
                refine J_icmp_ge 88 (by decide) dX0_canTake_12 (fun c483 => ?_) (fun c483 => ?_)
                rotate_left
                · exact absurd (by decide) c483
                refine J_iload_n 2 rfl dX0_canTake_88 ?_
                refine J_if_eq 100 (by decide) dX0_canTake_89 (fun c484 => ?_) (fun c484 => ?_)
                · skip
                  refine J_iconst (v := 0) (by decide) dX0_canTake_100 ?_
                  exact J_ireturn rfl (by first | rfl | assumption | simp [kb_nar]) dX0_canTake_101 (⟨by (try simp only [kb_0, kb_1, kb_n0, kb_n1, decide_eq_false_iff_not, decide_eq_true_eq, ne_eq, Classical.not_not] at *); first | (simp [kb, kb_0, kb_1, vr_n, vr_s, takF, may_1, may_2, havF_n, havF_s, shF_none, shF_some, *]; done) | (simp [kb, kb_0, kb_1, vr_n, vr_s, takF, may_1, may_2, havF_n, havF_s, shF_none, shF_some, *] <;> grind), rfl⟩) (by omega) (by omega)
                · skip
                  refine J_iload_n 3 rfl dX0_canTake_92 ?_
                  refine J_if_eq 100 (by decide) dX0_canTake_93 (fun c485 => ?_) (fun c485 => ?_)
                  · exact absurd c485 (by decide)
                  refine J_iconst (v := 1) (by decide) dX0_canTake_96 ?_
                  refine J_goto 101 (by decide) dX0_canTake_97 ?_
                  exact J_ireturn rfl (by first | rfl | assumption | simp [kb_nar]) dX0_canTake_101 (⟨by (try simp only [kb_0, kb_1, kb_n0, kb_n1, decide_eq_false_iff_not, decide_eq_true_eq, ne_eq, Classical.not_not] at *); first | (simp [kb, kb_0, kb_1, vr_n, vr_s, takF, may_1, may_2, havF_n, havF_s, shF_none, shF_some, *]; done) | (simp [kb, kb_0, kb_1, vr_n, vr_s, takF, may_1, may_2, havF_n, havF_s, shF_none, shF_some, *] <;> grind), rfl⟩) (by omega) (by omega)
              · skip
                have ma478 : a478 ∈ LP := hsp _ _ (by decide) o477
                refine J_topv (v' := .ref a478) (by first | rfl | (rw [o477]; rfl)) ?_
                refine J_astore (lv' := [(0, .ref (ka S 3 0)), (1, .ref a), (2, .int v), (3, .int 1), (4, .int 2), (5, .ref a478), (6, .int 0)]) (by decide) rfl dX0_canTake_22 ?_
                refine J_aload 5 rfl dX0_canTake_24 ?_
                refine J_ifnull dX0_canTake_26 ?_
                refine J_aload_n 1 rfl dX0_canTake_29 ?_
                refine J_aload 5 rfl dX0_canTake_30 ?_
                refine cv_0_25 (cells' := 0) (slots' := 0) dX0_canTake_32 (c_X5_canBreakInOn (by assumption) (by assumption)) (n20 (by assumption)) ⟨by decide, by decide⟩ rfl rfl (by decide) (by decide) (Nat.le_of_ble_eq_true rfl) (fun _ _ r486 => ?_) (fun _ _ h => h.elim)
                obtain ⟨rfl, rfl⟩ := r486
                refine J_eq (st' := [.int (kb (brkF I a a478))]) rfl rfl rfl ?_
                refine J_if_eq 42 (by decide) dX0_canTake_35 (fun c487 => ?_) (fun c487 => ?_)
                · skip
                  refine J_iconst (v := 0) (by decide) dX0_canTake_42 ?_
                  refine J_istore (lv' := [(0, .ref (ka S 3 0)), (1, .ref a), (2, .int v), (3, .int 1), (4, .int 2), (5, .ref a478), (6, .int 0)]) (by decide) rfl dX0_canTake_43 ?_
                  refine J_aload 5 rfl dX0_canTake_45 ?_
                  refine J_ifnull dX0_canTake_47 ?_
                  refine J_iload 6 rfl dX0_canTake_50 ?_
                  refine J_if_ne 66 (by decide) dX0_canTake_52 (fun c488 => ?_) (fun c488 => ?_)
                  · exact absurd (by decide) c488
                  refine J_aload 5 rfl dX0_canTake_55 ?_
                  refine J_iload_n 2 rfl dX0_canTake_57 ?_
                  refine cv_0_21 (cells' := 0) (slots' := 0) dX0_canTake_58 (c_X5_sharesStationWith (by assumption)) (n20 (by assumption)) ⟨by decide, by decide⟩ rfl rfl (by decide) (by decide) (Nat.le_of_ble_eq_true rfl) (fun _ _ r489 => ?_) (fun _ _ h => h.elim)
                  obtain ⟨rfl, rfl⟩ := r489
                  refine J_eq (st' := [.int (kb (shrF I a478 v))]) rfl rfl rfl ?_
                  refine J_if_eq 66 (by decide) dX0_canTake_61 (fun c490 => ?_) (fun c490 => ?_)
                  · skip
                    refine J_iload 6 rfl dX0_canTake_66 ?_
                    refine J_if_eq 82 (by decide) dX0_canTake_68 (fun c491 => ?_) (fun c491 => ?_)
                    rotate_left
                    · exact absurd (by decide) c491
                    refine J_iinc (v := 3) (lv' := [(0, .ref (ka S 3 0)), (1, .ref a), (2, .int v), (3, .int 1), (4, .int 3), (5, .ref a478), (6, .int 0)]) 4 rfl (by decide) (by decide) rfl dX0_canTake_82 ?_
                    refine J_goto 5 (by decide) dX0_canTake_85 ?_
                    refine J_iload 4 rfl dX0_canTake_5 ?_
                    refine J_aload_n 0 rfl dX0_canTake_7 ?_
                    refine gf_0_11 (n3 _) dX0_canTake_8 ?_
                    refine J_alen (v := 3) 5 (n14 _) rfl rfl rfl dX0_canTake_11 ?_
                    refine J_icmp_ge 88 (by decide) dX0_canTake_12 (fun c493 => ?_) (fun c493 => ?_)
                    rotate_left
                    · exact absurd (by decide) c493
                    refine J_iload_n 2 rfl dX0_canTake_88 ?_
                    refine J_if_eq 100 (by decide) dX0_canTake_89 (fun c494 => ?_) (fun c494 => ?_)
                    · skip
                      refine J_iconst (v := 0) (by decide) dX0_canTake_100 ?_
                      exact J_ireturn rfl (by first | rfl | assumption | simp [kb_nar]) dX0_canTake_101 (⟨by (try simp only [kb_0, kb_1, kb_n0, kb_n1, decide_eq_false_iff_not, decide_eq_true_eq, ne_eq, Classical.not_not] at *); first | (simp [kb, kb_0, kb_1, vr_n, vr_s, takF, may_1, may_2, havF_n, havF_s, shF_none, shF_some, *]; done) | (simp [kb, kb_0, kb_1, vr_n, vr_s, takF, may_1, may_2, havF_n, havF_s, shF_none, shF_some, *] <;> grind), rfl⟩) (by omega) (by omega)
                    · skip
                      refine J_iload_n 3 rfl dX0_canTake_92 ?_
                      refine J_if_eq 100 (by decide) dX0_canTake_93 (fun c495 => ?_) (fun c495 => ?_)
                      · exact absurd c495 (by decide)
                      refine J_iconst (v := 1) (by decide) dX0_canTake_96 ?_
                      refine J_goto 101 (by decide) dX0_canTake_97 ?_
                      exact J_ireturn rfl (by first | rfl | assumption | simp [kb_nar]) dX0_canTake_101 (⟨by (try simp only [kb_0, kb_1, kb_n0, kb_n1, decide_eq_false_iff_not, decide_eq_true_eq, ne_eq, Classical.not_not] at *); first | (simp [kb, kb_0, kb_1, vr_n, vr_s, takF, may_1, may_2, havF_n, havF_s, shF_none, shF_some, *]; done) | (simp [kb, kb_0, kb_1, vr_n, vr_s, takF, may_1, may_2, havF_n, havF_s, shF_none, shF_some, *] <;> grind), rfl⟩) (by omega) (by omega)
                  · skip
                    refine J_iconst (v := 0) (by decide) dX0_canTake_64 ?_
                    exact J_ireturn rfl (by first | rfl | assumption | simp [kb_nar]) dX0_canTake_65 (⟨by (try simp only [kb_0, kb_1, kb_n0, kb_n1, decide_eq_false_iff_not, decide_eq_true_eq, ne_eq, Classical.not_not] at *); first | (simp [kb, kb_0, kb_1, vr_n, vr_s, takF, may_1, may_2, havF_n, havF_s, shF_none, shF_some, *]; done) | (simp [kb, kb_0, kb_1, vr_n, vr_s, takF, may_1, may_2, havF_n, havF_s, shF_none, shF_some, *] <;> grind), rfl⟩) (by omega) (by omega)
                · skip
                  refine J_iconst (v := 1) (by decide) dX0_canTake_38 ?_
                  refine J_goto 43 (by decide) dX0_canTake_39 ?_
                  refine J_istore (lv' := [(0, .ref (ka S 3 0)), (1, .ref a), (2, .int v), (3, .int 1), (4, .int 2), (5, .ref a478), (6, .int 1)]) (by decide) rfl dX0_canTake_43 ?_
                  refine J_aload 5 rfl dX0_canTake_45 ?_
                  refine J_ifnull dX0_canTake_47 ?_
                  refine J_iload 6 rfl dX0_canTake_50 ?_
                  refine J_if_ne 66 (by decide) dX0_canTake_52 (fun c496 => ?_) (fun c496 => ?_)
                  rotate_left
                  · exact absurd c496 (by decide)
                  refine J_iload 6 rfl dX0_canTake_66 ?_
                  refine J_if_eq 82 (by decide) dX0_canTake_68 (fun c497 => ?_) (fun c497 => ?_)
                  · exact absurd c497 (by decide)
                  refine J_aload_n 1 rfl dX0_canTake_71 ?_
                  refine J_iload 4 rfl dX0_canTake_72 ?_
                  refine cv_0_29 (cells' := 0) (slots' := 0) dX0_canTake_74 (c_X5_mayHave (by assumption)) (n20 (by assumption)) ⟨by decide, by decide⟩ rfl rfl (by decide) (by decide) (Nat.le_of_ble_eq_true rfl) (fun _ _ r498 => ?_) (fun _ _ h => h.elim)
                  obtain ⟨rfl, rfl⟩ := r498
                  refine J_eq (st' := [.int (kb (mayF I a 2))]) rfl rfl rfl ?_
                  refine J_topv (v' := .int 1) (by first | rfl | (rw [may_2]; rfl)) ?_
                  refine J_if_eq 82 (by decide) dX0_canTake_77 (fun c499 => ?_) (fun c499 => ?_)
                  · exact absurd c499 (by decide)
                  refine J_iconst (v := 1) (by decide) dX0_canTake_80 ?_
                  refine J_istore_n (lv' := [(0, .ref (ka S 3 0)), (1, .ref a), (2, .int v), (3, .int 1), (4, .int 2), (5, .ref a478), (6, .int 1)]) (by decide) rfl dX0_canTake_81 ?_
                  refine J_iinc (v := 3) (lv' := [(0, .ref (ka S 3 0)), (1, .ref a), (2, .int v), (3, .int 1), (4, .int 3), (5, .ref a478), (6, .int 1)]) 4 rfl (by decide) (by decide) rfl dX0_canTake_82 ?_
                  refine J_goto 5 (by decide) dX0_canTake_85 ?_
                  refine J_iload 4 rfl dX0_canTake_5 ?_
                  refine J_aload_n 0 rfl dX0_canTake_7 ?_
                  refine gf_0_11 (n3 _) dX0_canTake_8 ?_
                  refine J_alen (v := 3) 5 (n14 _) rfl rfl rfl dX0_canTake_11 ?_
                  refine J_icmp_ge 88 (by decide) dX0_canTake_12 (fun c501 => ?_) (fun c501 => ?_)
                  rotate_left
                  · exact absurd (by decide) c501
                  refine J_iload_n 2 rfl dX0_canTake_88 ?_
                  refine J_if_eq 100 (by decide) dX0_canTake_89 (fun c502 => ?_) (fun c502 => ?_)
                  · skip
                    refine J_iconst (v := 0) (by decide) dX0_canTake_100 ?_
                    exact J_ireturn rfl (by first | rfl | assumption | simp [kb_nar]) dX0_canTake_101 (⟨by (try simp only [kb_0, kb_1, kb_n0, kb_n1, decide_eq_false_iff_not, decide_eq_true_eq, ne_eq, Classical.not_not] at *); first | (simp [kb, kb_0, kb_1, vr_n, vr_s, takF, may_1, may_2, havF_n, havF_s, shF_none, shF_some, *]; done) | (simp [kb, kb_0, kb_1, vr_n, vr_s, takF, may_1, may_2, havF_n, havF_s, shF_none, shF_some, *] <;> grind), rfl⟩) (by omega) (by omega)
                  · skip
                    refine J_iload_n 3 rfl dX0_canTake_92 ?_
                    refine J_if_eq 100 (by decide) dX0_canTake_93 (fun c503 => ?_) (fun c503 => ?_)
                    · exact absurd c503 (by decide)
                    refine J_iconst (v := 1) (by decide) dX0_canTake_96 ?_
                    refine J_goto 101 (by decide) dX0_canTake_97 ?_
                    exact J_ireturn rfl (by first | rfl | assumption | simp [kb_nar]) dX0_canTake_101 (⟨by (try simp only [kb_0, kb_1, kb_n0, kb_n1, decide_eq_false_iff_not, decide_eq_true_eq, ne_eq, Classical.not_not] at *); first | (simp [kb, kb_0, kb_1, vr_n, vr_s, takF, may_1, may_2, havF_n, havF_s, shF_none, shF_some, *]; done) | (simp [kb, kb_0, kb_1, vr_n, vr_s, takF, may_1, may_2, havF_n, havF_s, shF_none, shF_some, *] <;> grind), rfl⟩) (by omega) (by omega)
            · skip
              refine J_iconst (v := 0) (by decide) dX0_canTake_64 ?_
              exact J_ireturn rfl (by first | rfl | assumption | simp [kb_nar]) dX0_canTake_65 (⟨by (try simp only [kb_0, kb_1, kb_n0, kb_n1, decide_eq_false_iff_not, decide_eq_true_eq, ne_eq, Classical.not_not] at *); first | (simp [kb, kb_0, kb_1, vr_n, vr_s, takF, may_1, may_2, havF_n, havF_s, shF_none, shF_some, *]; done) | (simp [kb, kb_0, kb_1, vr_n, vr_s, takF, may_1, may_2, havF_n, havF_s, shF_none, shF_some, *] <;> grind), rfl⟩) (by omega) (by omega)
          · skip
            refine J_iconst (v := 1) (by decide) dX0_canTake_38 ?_
            refine J_goto 43 (by decide) dX0_canTake_39 ?_
            refine J_istore (lv' := [(0, .ref (ka S 3 0)), (1, .ref a), (2, .int v), (3, .int 1), (4, .int 1), (5, .ref a436), (6, .int 1)]) (by decide) rfl dX0_canTake_43 ?_
            refine J_aload 5 rfl dX0_canTake_45 ?_
            refine J_ifnull dX0_canTake_47 ?_
            refine J_iload 6 rfl dX0_canTake_50 ?_
            refine J_if_ne 66 (by decide) dX0_canTake_52 (fun c504 => ?_) (fun c504 => ?_)
            rotate_left
            · exact absurd c504 (by decide)
            refine J_iload 6 rfl dX0_canTake_66 ?_
            refine J_if_eq 82 (by decide) dX0_canTake_68 (fun c505 => ?_) (fun c505 => ?_)
            · exact absurd c505 (by decide)
            refine J_aload_n 1 rfl dX0_canTake_71 ?_
            refine J_iload 4 rfl dX0_canTake_72 ?_
            refine cv_0_29 (cells' := 0) (slots' := 0) dX0_canTake_74 (c_X5_mayHave (by assumption)) (n20 (by assumption)) ⟨by decide, by decide⟩ rfl rfl (by decide) (by decide) (Nat.le_of_ble_eq_true rfl) (fun _ _ r506 => ?_) (fun _ _ h => h.elim)
            obtain ⟨rfl, rfl⟩ := r506
            refine J_eq (st' := [.int (kb (mayF I a 1))]) rfl rfl rfl ?_
            refine J_topv (v' := .int 1) (by first | rfl | (rw [may_1]; rfl)) ?_
            refine J_if_eq 82 (by decide) dX0_canTake_77 (fun c507 => ?_) (fun c507 => ?_)
            · exact absurd c507 (by decide)
            refine J_iconst (v := 1) (by decide) dX0_canTake_80 ?_
            refine J_istore_n (lv' := [(0, .ref (ka S 3 0)), (1, .ref a), (2, .int v), (3, .int 1), (4, .int 1), (5, .ref a436), (6, .int 1)]) (by decide) rfl dX0_canTake_81 ?_
            refine J_iinc (v := 2) (lv' := [(0, .ref (ka S 3 0)), (1, .ref a), (2, .int v), (3, .int 1), (4, .int 2), (5, .ref a436), (6, .int 1)]) 4 rfl (by decide) (by decide) rfl dX0_canTake_82 ?_
            refine J_goto 5 (by decide) dX0_canTake_85 ?_
            refine J_iload 4 rfl dX0_canTake_5 ?_
            refine J_aload_n 0 rfl dX0_canTake_7 ?_
            refine gf_0_11 (n3 _) dX0_canTake_8 ?_
            refine J_alen (v := 3) 5 (n14 _) rfl rfl rfl dX0_canTake_11 ?_
            refine J_icmp_ge 88 (by decide) dX0_canTake_12 (fun c509 => ?_) (fun c509 => ?_)
            · exact absurd c509 (by decide)
            refine J_aload_n 0 rfl dX0_canTake_15 ?_
            refine gf_0_11 (n3 _) dX0_canTake_16 ?_
            refine J_iload 4 rfl dX0_canTake_19 ?_
            refine J_aald 2 5 (n14 _) rfl rfl (vp_in_iff.mpr (by decide)) (by decide) dX0_canTake_21 ?_
            rcases opt_split (R 14 0 2) with o510 | ⟨a511, o510⟩
            · skip
              refine J_topv (v' := .null) (by first | rfl | (rw [o510]; rfl)) ?_
              refine J_astoreN (lv' := [(0, .ref (ka S 3 0)), (1, .ref a), (2, .int v), (3, .int 1), (4, .int 2), (5, .null), (6, .int 1)]) (by decide) rfl dX0_canTake_22 ?_
              refine J_aloadN 5 rfl dX0_canTake_24 ?_
              refine J_ifnullN 38 (by decide) dX0_canTake_26 ?_
              refine J_iconst (v := 1) (by decide) dX0_canTake_38 ?_
              refine J_goto 43 (by decide) dX0_canTake_39 ?_
              refine J_istore (lv' := [(0, .ref (ka S 3 0)), (1, .ref a), (2, .int v), (3, .int 1), (4, .int 2), (5, .null), (6, .int 1)]) (by decide) rfl dX0_canTake_43 ?_
              refine J_aloadN 5 rfl dX0_canTake_45 ?_
              refine J_ifnullN 66 (by decide) dX0_canTake_47 ?_
              refine J_iload 6 rfl dX0_canTake_66 ?_
              refine J_if_eq 82 (by decide) dX0_canTake_68 (fun c512 => ?_) (fun c512 => ?_)
              · exact absurd c512 (by decide)
              refine J_aload_n 1 rfl dX0_canTake_71 ?_
              refine J_iload 4 rfl dX0_canTake_72 ?_
              refine cv_0_29 (cells' := 0) (slots' := 0) dX0_canTake_74 (c_X5_mayHave (by assumption)) (n20 (by assumption)) ⟨by decide, by decide⟩ rfl rfl (by decide) (by decide) (Nat.le_of_ble_eq_true rfl) (fun _ _ r513 => ?_) (fun _ _ h => h.elim)
              obtain ⟨rfl, rfl⟩ := r513
              refine J_eq (st' := [.int (kb (mayF I a 2))]) rfl rfl rfl ?_
              refine J_topv (v' := .int 1) (by first | rfl | (rw [may_2]; rfl)) ?_
              refine J_if_eq 82 (by decide) dX0_canTake_77 (fun c514 => ?_) (fun c514 => ?_)
              · exact absurd c514 (by decide)
              refine J_iconst (v := 1) (by decide) dX0_canTake_80 ?_
              refine J_istore_n (lv' := [(0, .ref (ka S 3 0)), (1, .ref a), (2, .int v), (3, .int 1), (4, .int 2), (5, .null), (6, .int 1)]) (by decide) rfl dX0_canTake_81 ?_
              refine J_iinc (v := 3) (lv' := [(0, .ref (ka S 3 0)), (1, .ref a), (2, .int v), (3, .int 1), (4, .int 3), (5, .null), (6, .int 1)]) 4 rfl (by decide) (by decide) rfl dX0_canTake_82 ?_
              refine J_goto 5 (by decide) dX0_canTake_85 ?_
              refine J_iload 4 rfl dX0_canTake_5 ?_
              refine J_aload_n 0 rfl dX0_canTake_7 ?_
              refine gf_0_11 (n3 _) dX0_canTake_8 ?_
              refine J_alen (v := 3) 5 (n14 _) rfl rfl rfl dX0_canTake_11 ?_
              refine J_icmp_ge 88 (by decide) dX0_canTake_12 (fun c516 => ?_) (fun c516 => ?_)
              rotate_left
              · exact absurd (by decide) c516
              refine J_iload_n 2 rfl dX0_canTake_88 ?_
              refine J_if_eq 100 (by decide) dX0_canTake_89 (fun c517 => ?_) (fun c517 => ?_)
              · skip
                refine J_iconst (v := 0) (by decide) dX0_canTake_100 ?_
                exact J_ireturn rfl (by first | rfl | assumption | simp [kb_nar]) dX0_canTake_101 (⟨by (try simp only [kb_0, kb_1, kb_n0, kb_n1, decide_eq_false_iff_not, decide_eq_true_eq, ne_eq, Classical.not_not] at *); first | (simp [kb, kb_0, kb_1, vr_n, vr_s, takF, may_1, may_2, havF_n, havF_s, shF_none, shF_some, *]; done) | (simp [kb, kb_0, kb_1, vr_n, vr_s, takF, may_1, may_2, havF_n, havF_s, shF_none, shF_some, *] <;> grind), rfl⟩) (by omega) (by omega)
              · skip
                refine J_iload_n 3 rfl dX0_canTake_92 ?_
                refine J_if_eq 100 (by decide) dX0_canTake_93 (fun c518 => ?_) (fun c518 => ?_)
                · exact absurd c518 (by decide)
                refine J_iconst (v := 1) (by decide) dX0_canTake_96 ?_
                refine J_goto 101 (by decide) dX0_canTake_97 ?_
                exact J_ireturn rfl (by first | rfl | assumption | simp [kb_nar]) dX0_canTake_101 (⟨by (try simp only [kb_0, kb_1, kb_n0, kb_n1, decide_eq_false_iff_not, decide_eq_true_eq, ne_eq, Classical.not_not] at *); first | (simp [kb, kb_0, kb_1, vr_n, vr_s, takF, may_1, may_2, havF_n, havF_s, shF_none, shF_some, *]; done) | (simp [kb, kb_0, kb_1, vr_n, vr_s, takF, may_1, may_2, havF_n, havF_s, shF_none, shF_some, *] <;> grind), rfl⟩) (by omega) (by omega)
            · skip
              have ma511 : a511 ∈ LP := hsp _ _ (by decide) o510
              refine J_topv (v' := .ref a511) (by first | rfl | (rw [o510]; rfl)) ?_
              refine J_astore (lv' := [(0, .ref (ka S 3 0)), (1, .ref a), (2, .int v), (3, .int 1), (4, .int 2), (5, .ref a511), (6, .int 1)]) (by decide) rfl dX0_canTake_22 ?_
              refine J_aload 5 rfl dX0_canTake_24 ?_
              refine J_ifnull dX0_canTake_26 ?_
              refine J_aload_n 1 rfl dX0_canTake_29 ?_
              refine J_aload 5 rfl dX0_canTake_30 ?_
              refine cv_0_25 (cells' := 0) (slots' := 0) dX0_canTake_32 (c_X5_canBreakInOn (by assumption) (by assumption)) (n20 (by assumption)) ⟨by decide, by decide⟩ rfl rfl (by decide) (by decide) (Nat.le_of_ble_eq_true rfl) (fun _ _ r519 => ?_) (fun _ _ h => h.elim)
              obtain ⟨rfl, rfl⟩ := r519
              refine J_eq (st' := [.int (kb (brkF I a a511))]) rfl rfl rfl ?_
              refine J_if_eq 42 (by decide) dX0_canTake_35 (fun c520 => ?_) (fun c520 => ?_)
              · skip
                refine J_iconst (v := 0) (by decide) dX0_canTake_42 ?_
                refine J_istore (lv' := [(0, .ref (ka S 3 0)), (1, .ref a), (2, .int v), (3, .int 1), (4, .int 2), (5, .ref a511), (6, .int 0)]) (by decide) rfl dX0_canTake_43 ?_
                refine J_aload 5 rfl dX0_canTake_45 ?_
                refine J_ifnull dX0_canTake_47 ?_
                refine J_iload 6 rfl dX0_canTake_50 ?_
                refine J_if_ne 66 (by decide) dX0_canTake_52 (fun c521 => ?_) (fun c521 => ?_)
                · exact absurd (by decide) c521
                refine J_aload 5 rfl dX0_canTake_55 ?_
                refine J_iload_n 2 rfl dX0_canTake_57 ?_
                refine cv_0_21 (cells' := 0) (slots' := 0) dX0_canTake_58 (c_X5_sharesStationWith (by assumption)) (n20 (by assumption)) ⟨by decide, by decide⟩ rfl rfl (by decide) (by decide) (Nat.le_of_ble_eq_true rfl) (fun _ _ r522 => ?_) (fun _ _ h => h.elim)
                obtain ⟨rfl, rfl⟩ := r522
                refine J_eq (st' := [.int (kb (shrF I a511 v))]) rfl rfl rfl ?_
                refine J_if_eq 66 (by decide) dX0_canTake_61 (fun c523 => ?_) (fun c523 => ?_)
                · skip
                  refine J_iload 6 rfl dX0_canTake_66 ?_
                  refine J_if_eq 82 (by decide) dX0_canTake_68 (fun c524 => ?_) (fun c524 => ?_)
                  rotate_left
                  · exact absurd (by decide) c524
                  refine J_iinc (v := 3) (lv' := [(0, .ref (ka S 3 0)), (1, .ref a), (2, .int v), (3, .int 1), (4, .int 3), (5, .ref a511), (6, .int 0)]) 4 rfl (by decide) (by decide) rfl dX0_canTake_82 ?_
                  refine J_goto 5 (by decide) dX0_canTake_85 ?_
                  refine J_iload 4 rfl dX0_canTake_5 ?_
                  refine J_aload_n 0 rfl dX0_canTake_7 ?_
                  refine gf_0_11 (n3 _) dX0_canTake_8 ?_
                  refine J_alen (v := 3) 5 (n14 _) rfl rfl rfl dX0_canTake_11 ?_
                  refine J_icmp_ge 88 (by decide) dX0_canTake_12 (fun c526 => ?_) (fun c526 => ?_)
                  rotate_left
                  · exact absurd (by decide) c526
                  refine J_iload_n 2 rfl dX0_canTake_88 ?_
                  refine J_if_eq 100 (by decide) dX0_canTake_89 (fun c527 => ?_) (fun c527 => ?_)
                  · skip
                    refine J_iconst (v := 0) (by decide) dX0_canTake_100 ?_
                    exact J_ireturn rfl (by first | rfl | assumption | simp [kb_nar]) dX0_canTake_101 (⟨by (try simp only [kb_0, kb_1, kb_n0, kb_n1, decide_eq_false_iff_not, decide_eq_true_eq, ne_eq, Classical.not_not] at *); first | (simp [kb, kb_0, kb_1, vr_n, vr_s, takF, may_1, may_2, havF_n, havF_s, shF_none, shF_some, *]; done) | (simp [kb, kb_0, kb_1, vr_n, vr_s, takF, may_1, may_2, havF_n, havF_s, shF_none, shF_some, *] <;> grind), rfl⟩) (by omega) (by omega)
                  · skip
                    refine J_iload_n 3 rfl dX0_canTake_92 ?_
                    refine J_if_eq 100 (by decide) dX0_canTake_93 (fun c528 => ?_) (fun c528 => ?_)
                    · exact absurd c528 (by decide)
                    refine J_iconst (v := 1) (by decide) dX0_canTake_96 ?_
                    refine J_goto 101 (by decide) dX0_canTake_97 ?_
                    exact J_ireturn rfl (by first | rfl | assumption | simp [kb_nar]) dX0_canTake_101 (⟨by (try simp only [kb_0, kb_1, kb_n0, kb_n1, decide_eq_false_iff_not, decide_eq_true_eq, ne_eq, Classical.not_not] at *); first | (simp [kb, kb_0, kb_1, vr_n, vr_s, takF, may_1, may_2, havF_n, havF_s, shF_none, shF_some, *]; done) | (simp [kb, kb_0, kb_1, vr_n, vr_s, takF, may_1, may_2, havF_n, havF_s, shF_none, shF_some, *] <;> grind), rfl⟩) (by omega) (by omega)
                · skip
                  refine J_iconst (v := 0) (by decide) dX0_canTake_64 ?_
                  exact J_ireturn rfl (by first | rfl | assumption | simp [kb_nar]) dX0_canTake_65 (⟨by (try simp only [kb_0, kb_1, kb_n0, kb_n1, decide_eq_false_iff_not, decide_eq_true_eq, ne_eq, Classical.not_not] at *); first | (simp [kb, kb_0, kb_1, vr_n, vr_s, takF, may_1, may_2, havF_n, havF_s, shF_none, shF_some, *]; done) | (simp [kb, kb_0, kb_1, vr_n, vr_s, takF, may_1, may_2, havF_n, havF_s, shF_none, shF_some, *] <;> grind), rfl⟩) (by omega) (by omega)
              · skip
                refine J_iconst (v := 1) (by decide) dX0_canTake_38 ?_
                refine J_goto 43 (by decide) dX0_canTake_39 ?_
                refine J_istore (lv' := [(0, .ref (ka S 3 0)), (1, .ref a), (2, .int v), (3, .int 1), (4, .int 2), (5, .ref a511), (6, .int 1)]) (by decide) rfl dX0_canTake_43 ?_
                refine J_aload 5 rfl dX0_canTake_45 ?_
                refine J_ifnull dX0_canTake_47 ?_
                refine J_iload 6 rfl dX0_canTake_50 ?_
                refine J_if_ne 66 (by decide) dX0_canTake_52 (fun c529 => ?_) (fun c529 => ?_)
                rotate_left
                · exact absurd c529 (by decide)
                refine J_iload 6 rfl dX0_canTake_66 ?_
                refine J_if_eq 82 (by decide) dX0_canTake_68 (fun c530 => ?_) (fun c530 => ?_)
                · exact absurd c530 (by decide)
                refine J_aload_n 1 rfl dX0_canTake_71 ?_
                refine J_iload 4 rfl dX0_canTake_72 ?_
                refine cv_0_29 (cells' := 0) (slots' := 0) dX0_canTake_74 (c_X5_mayHave (by assumption)) (n20 (by assumption)) ⟨by decide, by decide⟩ rfl rfl (by decide) (by decide) (Nat.le_of_ble_eq_true rfl) (fun _ _ r531 => ?_) (fun _ _ h => h.elim)
                obtain ⟨rfl, rfl⟩ := r531
                refine J_eq (st' := [.int (kb (mayF I a 2))]) rfl rfl rfl ?_
                refine J_topv (v' := .int 1) (by first | rfl | (rw [may_2]; rfl)) ?_
                refine J_if_eq 82 (by decide) dX0_canTake_77 (fun c532 => ?_) (fun c532 => ?_)
                · exact absurd c532 (by decide)
                refine J_iconst (v := 1) (by decide) dX0_canTake_80 ?_
                refine J_istore_n (lv' := [(0, .ref (ka S 3 0)), (1, .ref a), (2, .int v), (3, .int 1), (4, .int 2), (5, .ref a511), (6, .int 1)]) (by decide) rfl dX0_canTake_81 ?_
                refine J_iinc (v := 3) (lv' := [(0, .ref (ka S 3 0)), (1, .ref a), (2, .int v), (3, .int 1), (4, .int 3), (5, .ref a511), (6, .int 1)]) 4 rfl (by decide) (by decide) rfl dX0_canTake_82 ?_
                refine J_goto 5 (by decide) dX0_canTake_85 ?_
                refine J_iload 4 rfl dX0_canTake_5 ?_
                refine J_aload_n 0 rfl dX0_canTake_7 ?_
                refine gf_0_11 (n3 _) dX0_canTake_8 ?_
                refine J_alen (v := 3) 5 (n14 _) rfl rfl rfl dX0_canTake_11 ?_
                refine J_icmp_ge 88 (by decide) dX0_canTake_12 (fun c534 => ?_) (fun c534 => ?_)
                rotate_left
                · exact absurd (by decide) c534
                refine J_iload_n 2 rfl dX0_canTake_88 ?_
                refine J_if_eq 100 (by decide) dX0_canTake_89 (fun c535 => ?_) (fun c535 => ?_)
                · skip
                  refine J_iconst (v := 0) (by decide) dX0_canTake_100 ?_
                  exact J_ireturn rfl (by first | rfl | assumption | simp [kb_nar]) dX0_canTake_101 (⟨by (try simp only [kb_0, kb_1, kb_n0, kb_n1, decide_eq_false_iff_not, decide_eq_true_eq, ne_eq, Classical.not_not] at *); first | (simp [kb, kb_0, kb_1, vr_n, vr_s, takF, may_1, may_2, havF_n, havF_s, shF_none, shF_some, *]; done) | (simp [kb, kb_0, kb_1, vr_n, vr_s, takF, may_1, may_2, havF_n, havF_s, shF_none, shF_some, *] <;> grind), rfl⟩) (by omega) (by omega)
                · skip
                  refine J_iload_n 3 rfl dX0_canTake_92 ?_
                  refine J_if_eq 100 (by decide) dX0_canTake_93 (fun c536 => ?_) (fun c536 => ?_)
                  · exact absurd c536 (by decide)
                  refine J_iconst (v := 1) (by decide) dX0_canTake_96 ?_
                  refine J_goto 101 (by decide) dX0_canTake_97 ?_
                  exact J_ireturn rfl (by first | rfl | assumption | simp [kb_nar]) dX0_canTake_101 (⟨by (try simp only [kb_0, kb_1, kb_n0, kb_n1, decide_eq_false_iff_not, decide_eq_true_eq, ne_eq, Classical.not_not] at *); first | (simp [kb, kb_0, kb_1, vr_n, vr_s, takF, may_1, may_2, havF_n, havF_s, shF_none, shF_some, *]; done) | (simp [kb, kb_0, kb_1, vr_n, vr_s, takF, may_1, may_2, havF_n, havF_s, shF_none, shF_some, *] <;> grind), rfl⟩) (by omega) (by omega)

set_option maxRecDepth 20000 in
theorem c_X0_leastUrgentFor {cy : Nat → ClassId} {S : Nat → Nat → Nat} {I : kI} {L : kL} {R : kRf} {LP : List Nat} {a : Nat} (hsp : inLP R 14 3 LP) (ha : a ∈ LP) : Con yX0_leastUrgentFor cX0_leastUrgentFor 5 (some (.object "FoghornExchange$RadioCall")) 1 0 0 cy [.ref (ka S 3 0), .ref a] (wc cy S I L R LP) (kRet (some (va_rf (leaF I R a))) (wc cy S I L R LP)) kF := by
  refine Con_of (by decide +kernel) (Nat.le_of_ble_eq_true rfl) ?_
  refine J_eq (lv' := [(0, .ref (ka S 3 0)), (1, .ref a)]) rfl rfl rfl ?_
  refine J_null dX0_leastUrgentFor_0 ?_
  refine J_astore_nN (lv' := [(0, .ref (ka S 3 0)), (1, .ref a), (2, .null)]) (by decide) rfl dX0_leastUrgentFor_1 ?_
  refine J_iconst (v := 0) (by decide) dX0_leastUrgentFor_2 ?_
  refine J_istore_n (lv' := [(0, .ref (ka S 3 0)), (1, .ref a), (2, .null), (3, .int 0)]) (by decide) rfl dX0_leastUrgentFor_3 ?_
  refine J_iload_n 3 rfl dX0_leastUrgentFor_4 ?_
  refine J_aload_n 0 rfl dX0_leastUrgentFor_5 ?_
  refine gf_0_11 (n3 _) dX0_leastUrgentFor_6 ?_
  refine J_alen (v := 3) 5 (n14 _) rfl rfl rfl dX0_leastUrgentFor_9 ?_
  refine J_icmp_ge 56 (by decide) dX0_leastUrgentFor_10 (fun c1 => ?_) (fun c1 => ?_)
  · exact absurd c1 (by decide)
  refine J_aload_n 0 rfl dX0_leastUrgentFor_13 ?_
  refine gf_0_11 (n3 _) dX0_leastUrgentFor_14 ?_
  refine J_iload_n 3 rfl dX0_leastUrgentFor_17 ?_
  refine J_aald 0 5 (n14 _) rfl rfl (vp_in_iff.mpr (by decide)) (by decide) dX0_leastUrgentFor_18 ?_
  rcases opt_split (R 14 0 0) with o2 | ⟨a3, o2⟩
  · skip
    refine J_topv (v' := .null) (by first | rfl | (rw [o2]; rfl)) ?_
    refine J_astoreN (lv' := [(0, .ref (ka S 3 0)), (1, .ref a), (2, .null), (3, .int 0), (4, .null)]) (by decide) rfl dX0_leastUrgentFor_19 ?_
    refine J_aloadN 4 rfl dX0_leastUrgentFor_21 ?_
    refine J_ifnullN 50 (by decide) dX0_leastUrgentFor_23 ?_
    refine J_iinc (v := 1) (lv' := [(0, .ref (ka S 3 0)), (1, .ref a), (2, .null), (3, .int 1), (4, .null)]) 3 rfl (by decide) (by decide) rfl dX0_leastUrgentFor_50 ?_
    refine J_goto 4 (by decide) dX0_leastUrgentFor_53 ?_
    refine J_iload_n 3 rfl dX0_leastUrgentFor_4 ?_
    refine J_aload_n 0 rfl dX0_leastUrgentFor_5 ?_
    refine gf_0_11 (n3 _) dX0_leastUrgentFor_6 ?_
    refine J_alen (v := 3) 5 (n14 _) rfl rfl rfl dX0_leastUrgentFor_9 ?_
    refine J_icmp_ge 56 (by decide) dX0_leastUrgentFor_10 (fun c5 => ?_) (fun c5 => ?_)
    · exact absurd c5 (by decide)
    refine J_aload_n 0 rfl dX0_leastUrgentFor_13 ?_
    refine gf_0_11 (n3 _) dX0_leastUrgentFor_14 ?_
    refine J_iload_n 3 rfl dX0_leastUrgentFor_17 ?_
    refine J_aald 1 5 (n14 _) rfl rfl (vp_in_iff.mpr (by decide)) (by decide) dX0_leastUrgentFor_18 ?_
    rcases opt_split (R 14 0 1) with o6 | ⟨a7, o6⟩
    · skip
      refine J_topv (v' := .null) (by first | rfl | (rw [o6]; rfl)) ?_
      refine J_astoreN (lv' := [(0, .ref (ka S 3 0)), (1, .ref a), (2, .null), (3, .int 1), (4, .null)]) (by decide) rfl dX0_leastUrgentFor_19 ?_
      refine J_aloadN 4 rfl dX0_leastUrgentFor_21 ?_
      refine J_ifnullN 50 (by decide) dX0_leastUrgentFor_23 ?_
      refine J_iinc (v := 2) (lv' := [(0, .ref (ka S 3 0)), (1, .ref a), (2, .null), (3, .int 2), (4, .null)]) 3 rfl (by decide) (by decide) rfl dX0_leastUrgentFor_50 ?_
      refine J_goto 4 (by decide) dX0_leastUrgentFor_53 ?_
      refine J_iload_n 3 rfl dX0_leastUrgentFor_4 ?_
      refine J_aload_n 0 rfl dX0_leastUrgentFor_5 ?_
      refine gf_0_11 (n3 _) dX0_leastUrgentFor_6 ?_
      refine J_alen (v := 3) 5 (n14 _) rfl rfl rfl dX0_leastUrgentFor_9 ?_
      refine J_icmp_ge 56 (by decide) dX0_leastUrgentFor_10 (fun c9 => ?_) (fun c9 => ?_)
      · exact absurd c9 (by decide)
      refine J_aload_n 0 rfl dX0_leastUrgentFor_13 ?_
      refine gf_0_11 (n3 _) dX0_leastUrgentFor_14 ?_
      refine J_iload_n 3 rfl dX0_leastUrgentFor_17 ?_
      refine J_aald 2 5 (n14 _) rfl rfl (vp_in_iff.mpr (by decide)) (by decide) dX0_leastUrgentFor_18 ?_
      rcases opt_split (R 14 0 2) with o10 | ⟨a11, o10⟩
      · skip
        refine J_topv (v' := .null) (by first | rfl | (rw [o10]; rfl)) ?_
        refine J_astoreN (lv' := [(0, .ref (ka S 3 0)), (1, .ref a), (2, .null), (3, .int 2), (4, .null)]) (by decide) rfl dX0_leastUrgentFor_19 ?_
        refine J_aloadN 4 rfl dX0_leastUrgentFor_21 ?_
        refine J_ifnullN 50 (by decide) dX0_leastUrgentFor_23 ?_
        refine J_iinc (v := 3) (lv' := [(0, .ref (ka S 3 0)), (1, .ref a), (2, .null), (3, .int 3), (4, .null)]) 3 rfl (by decide) (by decide) rfl dX0_leastUrgentFor_50 ?_
        refine J_goto 4 (by decide) dX0_leastUrgentFor_53 ?_
        refine J_iload_n 3 rfl dX0_leastUrgentFor_4 ?_
        refine J_aload_n 0 rfl dX0_leastUrgentFor_5 ?_
        refine gf_0_11 (n3 _) dX0_leastUrgentFor_6 ?_
        refine J_alen (v := 3) 5 (n14 _) rfl rfl rfl dX0_leastUrgentFor_9 ?_
        refine J_icmp_ge 56 (by decide) dX0_leastUrgentFor_10 (fun c13 => ?_) (fun c13 => ?_)
        rotate_left
        · exact absurd (by decide) c13
        refine J_aload_nN 2 rfl dX0_leastUrgentFor_56 ?_
        exact J_areturn rfl (by first | exact Or.inl ⟨_, rfl⟩ | exact Or.inr ⟨_, rfl⟩) (by first | exact Or.inl rfl | exact Or.inr ⟨_, rfl⟩ | exact va_rf_or _) dX0_leastUrgentFor_57 (⟨by (try simp only [kb_0, kb_1, kb_n0, kb_n1, decide_eq_false_iff_not, decide_eq_true_eq, ne_eq, Classical.not_not] at *); first | (simp [kb, kb_0, kb_1, vr_n, vr_s, leaF, may_1, may_2, luF_n, luF_s1, luF_s2, *]; done) | (simp [kb, kb_0, kb_1, vr_n, vr_s, leaF, may_1, may_2, luF_n, luF_s1, luF_s2, *] <;> grind), rfl⟩) (by omega) (by omega)
      · skip
        have ma11 : a11 ∈ LP := hsp _ _ (by decide) o10
        refine J_topv (v' := .ref a11) (by first | rfl | (rw [o10]; rfl)) ?_
        refine J_astore (lv' := [(0, .ref (ka S 3 0)), (1, .ref a), (2, .null), (3, .int 2), (4, .ref a11)]) (by decide) rfl dX0_leastUrgentFor_19 ?_
        refine J_aload 4 rfl dX0_leastUrgentFor_21 ?_
        refine J_ifnull dX0_leastUrgentFor_23 ?_
        refine J_aload_n 1 rfl dX0_leastUrgentFor_26 ?_
        refine J_iload_n 3 rfl dX0_leastUrgentFor_27 ?_
        refine cv_0_29 (cells' := 0) (slots' := 0) dX0_leastUrgentFor_28 (c_X5_mayHave (by assumption)) (n20 (by assumption)) ⟨by decide, by decide⟩ rfl rfl (by decide) (by decide) (Nat.le_of_ble_eq_true rfl) (fun _ _ r14 => ?_) (fun _ _ h => h.elim)
        obtain ⟨rfl, rfl⟩ := r14
        refine J_eq (st' := [.int (kb (mayF I a 2))]) rfl rfl rfl ?_
        refine J_topv (v' := .int 1) (by first | rfl | (rw [may_2]; rfl)) ?_
        refine J_if_eq 50 (by decide) dX0_leastUrgentFor_31 (fun c15 => ?_) (fun c15 => ?_)
        · exact absurd c15 (by decide)
        refine J_aload_nN 2 rfl dX0_leastUrgentFor_34 ?_
        refine J_ifnullN 47 (by decide) dX0_leastUrgentFor_35 ?_
        refine J_aload 4 rfl dX0_leastUrgentFor_47 ?_
        refine J_astore_n (lv' := [(0, .ref (ka S 3 0)), (1, .ref a), (2, .ref a11), (3, .int 2), (4, .ref a11)]) (by decide) rfl dX0_leastUrgentFor_49 ?_
        refine J_iinc (v := 3) (lv' := [(0, .ref (ka S 3 0)), (1, .ref a), (2, .ref a11), (3, .int 3), (4, .ref a11)]) 3 rfl (by decide) (by decide) rfl dX0_leastUrgentFor_50 ?_
        refine J_goto 4 (by decide) dX0_leastUrgentFor_53 ?_
        refine J_iload_n 3 rfl dX0_leastUrgentFor_4 ?_
        refine J_aload_n 0 rfl dX0_leastUrgentFor_5 ?_
        refine gf_0_11 (n3 _) dX0_leastUrgentFor_6 ?_
        refine J_alen (v := 3) 5 (n14 _) rfl rfl rfl dX0_leastUrgentFor_9 ?_
        refine J_icmp_ge 56 (by decide) dX0_leastUrgentFor_10 (fun c17 => ?_) (fun c17 => ?_)
        rotate_left
        · exact absurd (by decide) c17
        refine J_aload_n 2 rfl dX0_leastUrgentFor_56 ?_
        exact J_areturn rfl (by first | exact Or.inl ⟨_, rfl⟩ | exact Or.inr ⟨_, rfl⟩) (by first | exact Or.inl rfl | exact Or.inr ⟨_, rfl⟩ | exact va_rf_or _) dX0_leastUrgentFor_57 (⟨by (try simp only [kb_0, kb_1, kb_n0, kb_n1, decide_eq_false_iff_not, decide_eq_true_eq, ne_eq, Classical.not_not] at *); first | (simp [kb, kb_0, kb_1, vr_n, vr_s, leaF, may_1, may_2, luF_n, luF_s1, luF_s2, *]; done) | (simp [kb, kb_0, kb_1, vr_n, vr_s, leaF, may_1, may_2, luF_n, luF_s1, luF_s2, *] <;> grind), rfl⟩) (by omega) (by omega)
    · skip
      have ma7 : a7 ∈ LP := hsp _ _ (by decide) o6
      refine J_topv (v' := .ref a7) (by first | rfl | (rw [o6]; rfl)) ?_
      refine J_astore (lv' := [(0, .ref (ka S 3 0)), (1, .ref a), (2, .null), (3, .int 1), (4, .ref a7)]) (by decide) rfl dX0_leastUrgentFor_19 ?_
      refine J_aload 4 rfl dX0_leastUrgentFor_21 ?_
      refine J_ifnull dX0_leastUrgentFor_23 ?_
      refine J_aload_n 1 rfl dX0_leastUrgentFor_26 ?_
      refine J_iload_n 3 rfl dX0_leastUrgentFor_27 ?_
      refine cv_0_29 (cells' := 0) (slots' := 0) dX0_leastUrgentFor_28 (c_X5_mayHave (by assumption)) (n20 (by assumption)) ⟨by decide, by decide⟩ rfl rfl (by decide) (by decide) (Nat.le_of_ble_eq_true rfl) (fun _ _ r18 => ?_) (fun _ _ h => h.elim)
      obtain ⟨rfl, rfl⟩ := r18
      refine J_eq (st' := [.int (kb (mayF I a 1))]) rfl rfl rfl ?_
      refine J_topv (v' := .int 1) (by first | rfl | (rw [may_1]; rfl)) ?_
      refine J_if_eq 50 (by decide) dX0_leastUrgentFor_31 (fun c19 => ?_) (fun c19 => ?_)
      · exact absurd c19 (by decide)
      refine J_aload_nN 2 rfl dX0_leastUrgentFor_34 ?_
      refine J_ifnullN 47 (by decide) dX0_leastUrgentFor_35 ?_
      refine J_aload 4 rfl dX0_leastUrgentFor_47 ?_
      refine J_astore_n (lv' := [(0, .ref (ka S 3 0)), (1, .ref a), (2, .ref a7), (3, .int 1), (4, .ref a7)]) (by decide) rfl dX0_leastUrgentFor_49 ?_
      refine J_iinc (v := 2) (lv' := [(0, .ref (ka S 3 0)), (1, .ref a), (2, .ref a7), (3, .int 2), (4, .ref a7)]) 3 rfl (by decide) (by decide) rfl dX0_leastUrgentFor_50 ?_
      refine J_goto 4 (by decide) dX0_leastUrgentFor_53 ?_
      refine J_iload_n 3 rfl dX0_leastUrgentFor_4 ?_
      refine J_aload_n 0 rfl dX0_leastUrgentFor_5 ?_
      refine gf_0_11 (n3 _) dX0_leastUrgentFor_6 ?_
      refine J_alen (v := 3) 5 (n14 _) rfl rfl rfl dX0_leastUrgentFor_9 ?_
      refine J_icmp_ge 56 (by decide) dX0_leastUrgentFor_10 (fun c21 => ?_) (fun c21 => ?_)
      · exact absurd c21 (by decide)
      refine J_aload_n 0 rfl dX0_leastUrgentFor_13 ?_
      refine gf_0_11 (n3 _) dX0_leastUrgentFor_14 ?_
      refine J_iload_n 3 rfl dX0_leastUrgentFor_17 ?_
      refine J_aald 2 5 (n14 _) rfl rfl (vp_in_iff.mpr (by decide)) (by decide) dX0_leastUrgentFor_18 ?_
      rcases opt_split (R 14 0 2) with o22 | ⟨a23, o22⟩
      · skip
        refine J_topv (v' := .null) (by first | rfl | (rw [o22]; rfl)) ?_
        refine J_astoreN (lv' := [(0, .ref (ka S 3 0)), (1, .ref a), (2, .ref a7), (3, .int 2), (4, .null)]) (by decide) rfl dX0_leastUrgentFor_19 ?_
        refine J_aloadN 4 rfl dX0_leastUrgentFor_21 ?_
        refine J_ifnullN 50 (by decide) dX0_leastUrgentFor_23 ?_
        refine J_iinc (v := 3) (lv' := [(0, .ref (ka S 3 0)), (1, .ref a), (2, .ref a7), (3, .int 3), (4, .null)]) 3 rfl (by decide) (by decide) rfl dX0_leastUrgentFor_50 ?_
        refine J_goto 4 (by decide) dX0_leastUrgentFor_53 ?_
        refine J_iload_n 3 rfl dX0_leastUrgentFor_4 ?_
        refine J_aload_n 0 rfl dX0_leastUrgentFor_5 ?_
        refine gf_0_11 (n3 _) dX0_leastUrgentFor_6 ?_
        refine J_alen (v := 3) 5 (n14 _) rfl rfl rfl dX0_leastUrgentFor_9 ?_
        refine J_icmp_ge 56 (by decide) dX0_leastUrgentFor_10 (fun c25 => ?_) (fun c25 => ?_)
        rotate_left
        · exact absurd (by decide) c25
        refine J_aload_n 2 rfl dX0_leastUrgentFor_56 ?_
        exact J_areturn rfl (by first | exact Or.inl ⟨_, rfl⟩ | exact Or.inr ⟨_, rfl⟩) (by first | exact Or.inl rfl | exact Or.inr ⟨_, rfl⟩ | exact va_rf_or _) dX0_leastUrgentFor_57 (⟨by (try simp only [kb_0, kb_1, kb_n0, kb_n1, decide_eq_false_iff_not, decide_eq_true_eq, ne_eq, Classical.not_not] at *); first | (simp [kb, kb_0, kb_1, vr_n, vr_s, leaF, may_1, may_2, luF_n, luF_s1, luF_s2, *]; done) | (simp [kb, kb_0, kb_1, vr_n, vr_s, leaF, may_1, may_2, luF_n, luF_s1, luF_s2, *] <;> grind), rfl⟩) (by omega) (by omega)
      · skip
        have ma23 : a23 ∈ LP := hsp _ _ (by decide) o22
        refine J_topv (v' := .ref a23) (by first | rfl | (rw [o22]; rfl)) ?_
        refine J_astore (lv' := [(0, .ref (ka S 3 0)), (1, .ref a), (2, .ref a7), (3, .int 2), (4, .ref a23)]) (by decide) rfl dX0_leastUrgentFor_19 ?_
        refine J_aload 4 rfl dX0_leastUrgentFor_21 ?_
        refine J_ifnull dX0_leastUrgentFor_23 ?_
        refine J_aload_n 1 rfl dX0_leastUrgentFor_26 ?_
        refine J_iload_n 3 rfl dX0_leastUrgentFor_27 ?_
        refine cv_0_29 (cells' := 0) (slots' := 0) dX0_leastUrgentFor_28 (c_X5_mayHave (by assumption)) (n20 (by assumption)) ⟨by decide, by decide⟩ rfl rfl (by decide) (by decide) (Nat.le_of_ble_eq_true rfl) (fun _ _ r26 => ?_) (fun _ _ h => h.elim)
        obtain ⟨rfl, rfl⟩ := r26
        refine J_eq (st' := [.int (kb (mayF I a 2))]) rfl rfl rfl ?_
        refine J_topv (v' := .int 1) (by first | rfl | (rw [may_2]; rfl)) ?_
        refine J_if_eq 50 (by decide) dX0_leastUrgentFor_31 (fun c27 => ?_) (fun c27 => ?_)
        · exact absurd c27 (by decide)
        refine J_aload_n 2 rfl dX0_leastUrgentFor_34 ?_
        refine J_ifnull dX0_leastUrgentFor_35 ?_
        refine J_aload 4 rfl dX0_leastUrgentFor_38 ?_
        refine J_aload_n 2 rfl dX0_leastUrgentFor_40 ?_
        refine cv_0_32 (i := 0) (cells' := 0) (slots' := 0) dX0_leastUrgentFor_41 (c_X0_isEasierToInterrupt (by assumption) (by assumption)) ⟨by decide, by decide⟩ rfl rfl (by decide) (by decide) (Nat.le_of_ble_eq_true rfl) (fun _ _ r28 => ?_) (fun _ _ h => h.elim)
        obtain ⟨rfl, rfl⟩ := r28
        refine J_eq (st' := [.int (kb (easF I a23 a7))]) rfl rfl rfl ?_
        refine J_if_eq 50 (by decide) dX0_leastUrgentFor_44 (fun c29 => ?_) (fun c29 => ?_)
        · skip
          refine J_iinc (v := 3) (lv' := [(0, .ref (ka S 3 0)), (1, .ref a), (2, .ref a7), (3, .int 3), (4, .ref a23)]) 3 rfl (by decide) (by decide) rfl dX0_leastUrgentFor_50 ?_
          refine J_goto 4 (by decide) dX0_leastUrgentFor_53 ?_
          refine J_iload_n 3 rfl dX0_leastUrgentFor_4 ?_
          refine J_aload_n 0 rfl dX0_leastUrgentFor_5 ?_
          refine gf_0_11 (n3 _) dX0_leastUrgentFor_6 ?_
          refine J_alen (v := 3) 5 (n14 _) rfl rfl rfl dX0_leastUrgentFor_9 ?_
          refine J_icmp_ge 56 (by decide) dX0_leastUrgentFor_10 (fun c31 => ?_) (fun c31 => ?_)
          rotate_left
          · exact absurd (by decide) c31
          refine J_aload_n 2 rfl dX0_leastUrgentFor_56 ?_
          exact J_areturn rfl (by first | exact Or.inl ⟨_, rfl⟩ | exact Or.inr ⟨_, rfl⟩) (by first | exact Or.inl rfl | exact Or.inr ⟨_, rfl⟩ | exact va_rf_or _) dX0_leastUrgentFor_57 (⟨by (try simp only [kb_0, kb_1, kb_n0, kb_n1, decide_eq_false_iff_not, decide_eq_true_eq, ne_eq, Classical.not_not] at *); first | (simp [kb, kb_0, kb_1, vr_n, vr_s, leaF, may_1, may_2, luF_n, luF_s1, luF_s2, *]; done) | (simp [kb, kb_0, kb_1, vr_n, vr_s, leaF, may_1, may_2, luF_n, luF_s1, luF_s2, *] <;> grind), rfl⟩) (by omega) (by omega)
        · skip
          refine J_aload 4 rfl dX0_leastUrgentFor_47 ?_
          refine J_astore_n (lv' := [(0, .ref (ka S 3 0)), (1, .ref a), (2, .ref a23), (3, .int 2), (4, .ref a23)]) (by decide) rfl dX0_leastUrgentFor_49 ?_
          refine J_iinc (v := 3) (lv' := [(0, .ref (ka S 3 0)), (1, .ref a), (2, .ref a23), (3, .int 3), (4, .ref a23)]) 3 rfl (by decide) (by decide) rfl dX0_leastUrgentFor_50 ?_
          refine J_goto 4 (by decide) dX0_leastUrgentFor_53 ?_
          refine J_iload_n 3 rfl dX0_leastUrgentFor_4 ?_
          refine J_aload_n 0 rfl dX0_leastUrgentFor_5 ?_
          refine gf_0_11 (n3 _) dX0_leastUrgentFor_6 ?_
          refine J_alen (v := 3) 5 (n14 _) rfl rfl rfl dX0_leastUrgentFor_9 ?_
          refine J_icmp_ge 56 (by decide) dX0_leastUrgentFor_10 (fun c33 => ?_) (fun c33 => ?_)
          rotate_left
          · exact absurd (by decide) c33
          refine J_aload_n 2 rfl dX0_leastUrgentFor_56 ?_
          exact J_areturn rfl (by first | exact Or.inl ⟨_, rfl⟩ | exact Or.inr ⟨_, rfl⟩) (by first | exact Or.inl rfl | exact Or.inr ⟨_, rfl⟩ | exact va_rf_or _) dX0_leastUrgentFor_57 (⟨by (try simp only [kb_0, kb_1, kb_n0, kb_n1, decide_eq_false_iff_not, decide_eq_true_eq, ne_eq, Classical.not_not] at *); first | (simp [kb, kb_0, kb_1, vr_n, vr_s, leaF, may_1, may_2, luF_n, luF_s1, luF_s2, *]; done) | (simp [kb, kb_0, kb_1, vr_n, vr_s, leaF, may_1, may_2, luF_n, luF_s1, luF_s2, *] <;> grind), rfl⟩) (by omega) (by omega)
  · skip
    have ma3 : a3 ∈ LP := hsp _ _ (by decide) o2
    refine J_topv (v' := .ref a3) (by first | rfl | (rw [o2]; rfl)) ?_
    refine J_astore (lv' := [(0, .ref (ka S 3 0)), (1, .ref a), (2, .null), (3, .int 0), (4, .ref a3)]) (by decide) rfl dX0_leastUrgentFor_19 ?_
    refine J_aload 4 rfl dX0_leastUrgentFor_21 ?_
    refine J_ifnull dX0_leastUrgentFor_23 ?_
    refine J_aload_n 1 rfl dX0_leastUrgentFor_26 ?_
    refine J_iload_n 3 rfl dX0_leastUrgentFor_27 ?_
    refine cv_0_29 (cells' := 0) (slots' := 0) dX0_leastUrgentFor_28 (c_X5_mayHave (by assumption)) (n20 (by assumption)) ⟨by decide, by decide⟩ rfl rfl (by decide) (by decide) (Nat.le_of_ble_eq_true rfl) (fun _ _ r34 => ?_) (fun _ _ h => h.elim)
    obtain ⟨rfl, rfl⟩ := r34
    refine J_eq (st' := [.int (kb (mayF I a 0))]) rfl rfl rfl ?_
    refine J_if_eq 50 (by decide) dX0_leastUrgentFor_31 (fun c35 => ?_) (fun c35 => ?_)
    · skip
      refine J_iinc (v := 1) (lv' := [(0, .ref (ka S 3 0)), (1, .ref a), (2, .null), (3, .int 1), (4, .ref a3)]) 3 rfl (by decide) (by decide) rfl dX0_leastUrgentFor_50 ?_
      refine J_goto 4 (by decide) dX0_leastUrgentFor_53 ?_
      refine J_iload_n 3 rfl dX0_leastUrgentFor_4 ?_
      refine J_aload_n 0 rfl dX0_leastUrgentFor_5 ?_
      refine gf_0_11 (n3 _) dX0_leastUrgentFor_6 ?_
      refine J_alen (v := 3) 5 (n14 _) rfl rfl rfl dX0_leastUrgentFor_9 ?_
      refine J_icmp_ge 56 (by decide) dX0_leastUrgentFor_10 (fun c37 => ?_) (fun c37 => ?_)
      · exact absurd c37 (by decide)
      refine J_aload_n 0 rfl dX0_leastUrgentFor_13 ?_
      refine gf_0_11 (n3 _) dX0_leastUrgentFor_14 ?_
      refine J_iload_n 3 rfl dX0_leastUrgentFor_17 ?_
      refine J_aald 1 5 (n14 _) rfl rfl (vp_in_iff.mpr (by decide)) (by decide) dX0_leastUrgentFor_18 ?_
      rcases opt_split (R 14 0 1) with o38 | ⟨a39, o38⟩
      · skip
        refine J_topv (v' := .null) (by first | rfl | (rw [o38]; rfl)) ?_
        refine J_astoreN (lv' := [(0, .ref (ka S 3 0)), (1, .ref a), (2, .null), (3, .int 1), (4, .null)]) (by decide) rfl dX0_leastUrgentFor_19 ?_
        refine J_aloadN 4 rfl dX0_leastUrgentFor_21 ?_
        refine J_ifnullN 50 (by decide) dX0_leastUrgentFor_23 ?_
        refine J_iinc (v := 2) (lv' := [(0, .ref (ka S 3 0)), (1, .ref a), (2, .null), (3, .int 2), (4, .null)]) 3 rfl (by decide) (by decide) rfl dX0_leastUrgentFor_50 ?_
        refine J_goto 4 (by decide) dX0_leastUrgentFor_53 ?_
        refine J_iload_n 3 rfl dX0_leastUrgentFor_4 ?_
        refine J_aload_n 0 rfl dX0_leastUrgentFor_5 ?_
        refine gf_0_11 (n3 _) dX0_leastUrgentFor_6 ?_
        refine J_alen (v := 3) 5 (n14 _) rfl rfl rfl dX0_leastUrgentFor_9 ?_
        refine J_icmp_ge 56 (by decide) dX0_leastUrgentFor_10 (fun c41 => ?_) (fun c41 => ?_)
        · exact absurd c41 (by decide)
        refine J_aload_n 0 rfl dX0_leastUrgentFor_13 ?_
        refine gf_0_11 (n3 _) dX0_leastUrgentFor_14 ?_
        refine J_iload_n 3 rfl dX0_leastUrgentFor_17 ?_
        refine J_aald 2 5 (n14 _) rfl rfl (vp_in_iff.mpr (by decide)) (by decide) dX0_leastUrgentFor_18 ?_
        rcases opt_split (R 14 0 2) with o42 | ⟨a43, o42⟩
        · skip
          refine J_topv (v' := .null) (by first | rfl | (rw [o42]; rfl)) ?_
          refine J_astoreN (lv' := [(0, .ref (ka S 3 0)), (1, .ref a), (2, .null), (3, .int 2), (4, .null)]) (by decide) rfl dX0_leastUrgentFor_19 ?_
          refine J_aloadN 4 rfl dX0_leastUrgentFor_21 ?_
          refine J_ifnullN 50 (by decide) dX0_leastUrgentFor_23 ?_
          refine J_iinc (v := 3) (lv' := [(0, .ref (ka S 3 0)), (1, .ref a), (2, .null), (3, .int 3), (4, .null)]) 3 rfl (by decide) (by decide) rfl dX0_leastUrgentFor_50 ?_
          refine J_goto 4 (by decide) dX0_leastUrgentFor_53 ?_
          refine J_iload_n 3 rfl dX0_leastUrgentFor_4 ?_
          refine J_aload_n 0 rfl dX0_leastUrgentFor_5 ?_
          refine gf_0_11 (n3 _) dX0_leastUrgentFor_6 ?_
          refine J_alen (v := 3) 5 (n14 _) rfl rfl rfl dX0_leastUrgentFor_9 ?_
          refine J_icmp_ge 56 (by decide) dX0_leastUrgentFor_10 (fun c45 => ?_) (fun c45 => ?_)
          rotate_left
          · exact absurd (by decide) c45
          refine J_aload_nN 2 rfl dX0_leastUrgentFor_56 ?_
          exact J_areturn rfl (by first | exact Or.inl ⟨_, rfl⟩ | exact Or.inr ⟨_, rfl⟩) (by first | exact Or.inl rfl | exact Or.inr ⟨_, rfl⟩ | exact va_rf_or _) dX0_leastUrgentFor_57 (⟨by (try simp only [kb_0, kb_1, kb_n0, kb_n1, decide_eq_false_iff_not, decide_eq_true_eq, ne_eq, Classical.not_not] at *); first | (simp [kb, kb_0, kb_1, vr_n, vr_s, leaF, may_1, may_2, luF_n, luF_s1, luF_s2, *]; done) | (simp [kb, kb_0, kb_1, vr_n, vr_s, leaF, may_1, may_2, luF_n, luF_s1, luF_s2, *] <;> grind), rfl⟩) (by omega) (by omega)
        · skip
          have ma43 : a43 ∈ LP := hsp _ _ (by decide) o42
          refine J_topv (v' := .ref a43) (by first | rfl | (rw [o42]; rfl)) ?_
          refine J_astore (lv' := [(0, .ref (ka S 3 0)), (1, .ref a), (2, .null), (3, .int 2), (4, .ref a43)]) (by decide) rfl dX0_leastUrgentFor_19 ?_
          refine J_aload 4 rfl dX0_leastUrgentFor_21 ?_
          refine J_ifnull dX0_leastUrgentFor_23 ?_
          refine J_aload_n 1 rfl dX0_leastUrgentFor_26 ?_
          refine J_iload_n 3 rfl dX0_leastUrgentFor_27 ?_
          refine cv_0_29 (cells' := 0) (slots' := 0) dX0_leastUrgentFor_28 (c_X5_mayHave (by assumption)) (n20 (by assumption)) ⟨by decide, by decide⟩ rfl rfl (by decide) (by decide) (Nat.le_of_ble_eq_true rfl) (fun _ _ r46 => ?_) (fun _ _ h => h.elim)
          obtain ⟨rfl, rfl⟩ := r46
          refine J_eq (st' := [.int (kb (mayF I a 2))]) rfl rfl rfl ?_
          refine J_topv (v' := .int 1) (by first | rfl | (rw [may_2]; rfl)) ?_
          refine J_if_eq 50 (by decide) dX0_leastUrgentFor_31 (fun c47 => ?_) (fun c47 => ?_)
          · exact absurd c47 (by decide)
          refine J_aload_nN 2 rfl dX0_leastUrgentFor_34 ?_
          refine J_ifnullN 47 (by decide) dX0_leastUrgentFor_35 ?_
          refine J_aload 4 rfl dX0_leastUrgentFor_47 ?_
          refine J_astore_n (lv' := [(0, .ref (ka S 3 0)), (1, .ref a), (2, .ref a43), (3, .int 2), (4, .ref a43)]) (by decide) rfl dX0_leastUrgentFor_49 ?_
          refine J_iinc (v := 3) (lv' := [(0, .ref (ka S 3 0)), (1, .ref a), (2, .ref a43), (3, .int 3), (4, .ref a43)]) 3 rfl (by decide) (by decide) rfl dX0_leastUrgentFor_50 ?_
          refine J_goto 4 (by decide) dX0_leastUrgentFor_53 ?_
          refine J_iload_n 3 rfl dX0_leastUrgentFor_4 ?_
          refine J_aload_n 0 rfl dX0_leastUrgentFor_5 ?_
          refine gf_0_11 (n3 _) dX0_leastUrgentFor_6 ?_
          refine J_alen (v := 3) 5 (n14 _) rfl rfl rfl dX0_leastUrgentFor_9 ?_
          refine J_icmp_ge 56 (by decide) dX0_leastUrgentFor_10 (fun c49 => ?_) (fun c49 => ?_)
          rotate_left
          · exact absurd (by decide) c49
          refine J_aload_n 2 rfl dX0_leastUrgentFor_56 ?_
          exact J_areturn rfl (by first | exact Or.inl ⟨_, rfl⟩ | exact Or.inr ⟨_, rfl⟩) (by first | exact Or.inl rfl | exact Or.inr ⟨_, rfl⟩ | exact va_rf_or _) dX0_leastUrgentFor_57 (⟨by (try simp only [kb_0, kb_1, kb_n0, kb_n1, decide_eq_false_iff_not, decide_eq_true_eq, ne_eq, Classical.not_not] at *); first | (simp [kb, kb_0, kb_1, vr_n, vr_s, leaF, may_1, may_2, luF_n, luF_s1, luF_s2, *]; done) | (simp [kb, kb_0, kb_1, vr_n, vr_s, leaF, may_1, may_2, luF_n, luF_s1, luF_s2, *] <;> grind), rfl⟩) (by omega) (by omega)
      · skip
        have ma39 : a39 ∈ LP := hsp _ _ (by decide) o38
        refine J_topv (v' := .ref a39) (by first | rfl | (rw [o38]; rfl)) ?_
        refine J_astore (lv' := [(0, .ref (ka S 3 0)), (1, .ref a), (2, .null), (3, .int 1), (4, .ref a39)]) (by decide) rfl dX0_leastUrgentFor_19 ?_
        refine J_aload 4 rfl dX0_leastUrgentFor_21 ?_
        refine J_ifnull dX0_leastUrgentFor_23 ?_
        refine J_aload_n 1 rfl dX0_leastUrgentFor_26 ?_
        refine J_iload_n 3 rfl dX0_leastUrgentFor_27 ?_
        refine cv_0_29 (cells' := 0) (slots' := 0) dX0_leastUrgentFor_28 (c_X5_mayHave (by assumption)) (n20 (by assumption)) ⟨by decide, by decide⟩ rfl rfl (by decide) (by decide) (Nat.le_of_ble_eq_true rfl) (fun _ _ r50 => ?_) (fun _ _ h => h.elim)
        obtain ⟨rfl, rfl⟩ := r50
        refine J_eq (st' := [.int (kb (mayF I a 1))]) rfl rfl rfl ?_
        refine J_topv (v' := .int 1) (by first | rfl | (rw [may_1]; rfl)) ?_
        refine J_if_eq 50 (by decide) dX0_leastUrgentFor_31 (fun c51 => ?_) (fun c51 => ?_)
        · exact absurd c51 (by decide)
        refine J_aload_nN 2 rfl dX0_leastUrgentFor_34 ?_
        refine J_ifnullN 47 (by decide) dX0_leastUrgentFor_35 ?_
        refine J_aload 4 rfl dX0_leastUrgentFor_47 ?_
        refine J_astore_n (lv' := [(0, .ref (ka S 3 0)), (1, .ref a), (2, .ref a39), (3, .int 1), (4, .ref a39)]) (by decide) rfl dX0_leastUrgentFor_49 ?_
        refine J_iinc (v := 2) (lv' := [(0, .ref (ka S 3 0)), (1, .ref a), (2, .ref a39), (3, .int 2), (4, .ref a39)]) 3 rfl (by decide) (by decide) rfl dX0_leastUrgentFor_50 ?_
        refine J_goto 4 (by decide) dX0_leastUrgentFor_53 ?_
        refine J_iload_n 3 rfl dX0_leastUrgentFor_4 ?_
        refine J_aload_n 0 rfl dX0_leastUrgentFor_5 ?_
        refine gf_0_11 (n3 _) dX0_leastUrgentFor_6 ?_
        refine J_alen (v := 3) 5 (n14 _) rfl rfl rfl dX0_leastUrgentFor_9 ?_
        refine J_icmp_ge 56 (by decide) dX0_leastUrgentFor_10 (fun c53 => ?_) (fun c53 => ?_)
        · exact absurd c53 (by decide)
        refine J_aload_n 0 rfl dX0_leastUrgentFor_13 ?_
        refine gf_0_11 (n3 _) dX0_leastUrgentFor_14 ?_
        refine J_iload_n 3 rfl dX0_leastUrgentFor_17 ?_
        refine J_aald 2 5 (n14 _) rfl rfl (vp_in_iff.mpr (by decide)) (by decide) dX0_leastUrgentFor_18 ?_
        rcases opt_split (R 14 0 2) with o54 | ⟨a55, o54⟩
        · skip
          refine J_topv (v' := .null) (by first | rfl | (rw [o54]; rfl)) ?_
          refine J_astoreN (lv' := [(0, .ref (ka S 3 0)), (1, .ref a), (2, .ref a39), (3, .int 2), (4, .null)]) (by decide) rfl dX0_leastUrgentFor_19 ?_
          refine J_aloadN 4 rfl dX0_leastUrgentFor_21 ?_
          refine J_ifnullN 50 (by decide) dX0_leastUrgentFor_23 ?_
          refine J_iinc (v := 3) (lv' := [(0, .ref (ka S 3 0)), (1, .ref a), (2, .ref a39), (3, .int 3), (4, .null)]) 3 rfl (by decide) (by decide) rfl dX0_leastUrgentFor_50 ?_
          refine J_goto 4 (by decide) dX0_leastUrgentFor_53 ?_
          refine J_iload_n 3 rfl dX0_leastUrgentFor_4 ?_
          refine J_aload_n 0 rfl dX0_leastUrgentFor_5 ?_
          refine gf_0_11 (n3 _) dX0_leastUrgentFor_6 ?_
          refine J_alen (v := 3) 5 (n14 _) rfl rfl rfl dX0_leastUrgentFor_9 ?_
          refine J_icmp_ge 56 (by decide) dX0_leastUrgentFor_10 (fun c57 => ?_) (fun c57 => ?_)
          rotate_left
          · exact absurd (by decide) c57
          refine J_aload_n 2 rfl dX0_leastUrgentFor_56 ?_
          exact J_areturn rfl (by first | exact Or.inl ⟨_, rfl⟩ | exact Or.inr ⟨_, rfl⟩) (by first | exact Or.inl rfl | exact Or.inr ⟨_, rfl⟩ | exact va_rf_or _) dX0_leastUrgentFor_57 (⟨by (try simp only [kb_0, kb_1, kb_n0, kb_n1, decide_eq_false_iff_not, decide_eq_true_eq, ne_eq, Classical.not_not] at *); first | (simp [kb, kb_0, kb_1, vr_n, vr_s, leaF, may_1, may_2, luF_n, luF_s1, luF_s2, *]; done) | (simp [kb, kb_0, kb_1, vr_n, vr_s, leaF, may_1, may_2, luF_n, luF_s1, luF_s2, *] <;> grind), rfl⟩) (by omega) (by omega)
        · skip
          have ma55 : a55 ∈ LP := hsp _ _ (by decide) o54
          refine J_topv (v' := .ref a55) (by first | rfl | (rw [o54]; rfl)) ?_
          refine J_astore (lv' := [(0, .ref (ka S 3 0)), (1, .ref a), (2, .ref a39), (3, .int 2), (4, .ref a55)]) (by decide) rfl dX0_leastUrgentFor_19 ?_
          refine J_aload 4 rfl dX0_leastUrgentFor_21 ?_
          refine J_ifnull dX0_leastUrgentFor_23 ?_
          refine J_aload_n 1 rfl dX0_leastUrgentFor_26 ?_
          refine J_iload_n 3 rfl dX0_leastUrgentFor_27 ?_
          refine cv_0_29 (cells' := 0) (slots' := 0) dX0_leastUrgentFor_28 (c_X5_mayHave (by assumption)) (n20 (by assumption)) ⟨by decide, by decide⟩ rfl rfl (by decide) (by decide) (Nat.le_of_ble_eq_true rfl) (fun _ _ r58 => ?_) (fun _ _ h => h.elim)
          obtain ⟨rfl, rfl⟩ := r58
          refine J_eq (st' := [.int (kb (mayF I a 2))]) rfl rfl rfl ?_
          refine J_topv (v' := .int 1) (by first | rfl | (rw [may_2]; rfl)) ?_
          refine J_if_eq 50 (by decide) dX0_leastUrgentFor_31 (fun c59 => ?_) (fun c59 => ?_)
          · exact absurd c59 (by decide)
          refine J_aload_n 2 rfl dX0_leastUrgentFor_34 ?_
          refine J_ifnull dX0_leastUrgentFor_35 ?_
          refine J_aload 4 rfl dX0_leastUrgentFor_38 ?_
          refine J_aload_n 2 rfl dX0_leastUrgentFor_40 ?_
          refine cv_0_32 (i := 0) (cells' := 0) (slots' := 0) dX0_leastUrgentFor_41 (c_X0_isEasierToInterrupt (by assumption) (by assumption)) ⟨by decide, by decide⟩ rfl rfl (by decide) (by decide) (Nat.le_of_ble_eq_true rfl) (fun _ _ r60 => ?_) (fun _ _ h => h.elim)
          obtain ⟨rfl, rfl⟩ := r60
          refine J_eq (st' := [.int (kb (easF I a55 a39))]) rfl rfl rfl ?_
          refine J_if_eq 50 (by decide) dX0_leastUrgentFor_44 (fun c61 => ?_) (fun c61 => ?_)
          · skip
            refine J_iinc (v := 3) (lv' := [(0, .ref (ka S 3 0)), (1, .ref a), (2, .ref a39), (3, .int 3), (4, .ref a55)]) 3 rfl (by decide) (by decide) rfl dX0_leastUrgentFor_50 ?_
            refine J_goto 4 (by decide) dX0_leastUrgentFor_53 ?_
            refine J_iload_n 3 rfl dX0_leastUrgentFor_4 ?_
            refine J_aload_n 0 rfl dX0_leastUrgentFor_5 ?_
            refine gf_0_11 (n3 _) dX0_leastUrgentFor_6 ?_
            refine J_alen (v := 3) 5 (n14 _) rfl rfl rfl dX0_leastUrgentFor_9 ?_
            refine J_icmp_ge 56 (by decide) dX0_leastUrgentFor_10 (fun c63 => ?_) (fun c63 => ?_)
            rotate_left
            · exact absurd (by decide) c63
            refine J_aload_n 2 rfl dX0_leastUrgentFor_56 ?_
            exact J_areturn rfl (by first | exact Or.inl ⟨_, rfl⟩ | exact Or.inr ⟨_, rfl⟩) (by first | exact Or.inl rfl | exact Or.inr ⟨_, rfl⟩ | exact va_rf_or _) dX0_leastUrgentFor_57 (⟨by (try simp only [kb_0, kb_1, kb_n0, kb_n1, decide_eq_false_iff_not, decide_eq_true_eq, ne_eq, Classical.not_not] at *); first | (simp [kb, kb_0, kb_1, vr_n, vr_s, leaF, may_1, may_2, luF_n, luF_s1, luF_s2, *]; done) | (simp [kb, kb_0, kb_1, vr_n, vr_s, leaF, may_1, may_2, luF_n, luF_s1, luF_s2, *] <;> grind), rfl⟩) (by omega) (by omega)
          · skip
            refine J_aload 4 rfl dX0_leastUrgentFor_47 ?_
            refine J_astore_n (lv' := [(0, .ref (ka S 3 0)), (1, .ref a), (2, .ref a55), (3, .int 2), (4, .ref a55)]) (by decide) rfl dX0_leastUrgentFor_49 ?_
            refine J_iinc (v := 3) (lv' := [(0, .ref (ka S 3 0)), (1, .ref a), (2, .ref a55), (3, .int 3), (4, .ref a55)]) 3 rfl (by decide) (by decide) rfl dX0_leastUrgentFor_50 ?_
            refine J_goto 4 (by decide) dX0_leastUrgentFor_53 ?_
            refine J_iload_n 3 rfl dX0_leastUrgentFor_4 ?_
            refine J_aload_n 0 rfl dX0_leastUrgentFor_5 ?_
            refine gf_0_11 (n3 _) dX0_leastUrgentFor_6 ?_
            refine J_alen (v := 3) 5 (n14 _) rfl rfl rfl dX0_leastUrgentFor_9 ?_
            refine J_icmp_ge 56 (by decide) dX0_leastUrgentFor_10 (fun c65 => ?_) (fun c65 => ?_)
            rotate_left
            · exact absurd (by decide) c65
            refine J_aload_n 2 rfl dX0_leastUrgentFor_56 ?_
            exact J_areturn rfl (by first | exact Or.inl ⟨_, rfl⟩ | exact Or.inr ⟨_, rfl⟩) (by first | exact Or.inl rfl | exact Or.inr ⟨_, rfl⟩ | exact va_rf_or _) dX0_leastUrgentFor_57 (⟨by (try simp only [kb_0, kb_1, kb_n0, kb_n1, decide_eq_false_iff_not, decide_eq_true_eq, ne_eq, Classical.not_not] at *); first | (simp [kb, kb_0, kb_1, vr_n, vr_s, leaF, may_1, may_2, luF_n, luF_s1, luF_s2, *]; done) | (simp [kb, kb_0, kb_1, vr_n, vr_s, leaF, may_1, may_2, luF_n, luF_s1, luF_s2, *] <;> grind), rfl⟩) (by omega) (by omega)
    · skip
      refine J_aload_nN 2 rfl dX0_leastUrgentFor_34 ?_
      refine J_ifnullN 47 (by decide) dX0_leastUrgentFor_35 ?_
      refine J_aload 4 rfl dX0_leastUrgentFor_47 ?_
      refine J_astore_n (lv' := [(0, .ref (ka S 3 0)), (1, .ref a), (2, .ref a3), (3, .int 0), (4, .ref a3)]) (by decide) rfl dX0_leastUrgentFor_49 ?_
      refine J_iinc (v := 1) (lv' := [(0, .ref (ka S 3 0)), (1, .ref a), (2, .ref a3), (3, .int 1), (4, .ref a3)]) 3 rfl (by decide) (by decide) rfl dX0_leastUrgentFor_50 ?_
      refine J_goto 4 (by decide) dX0_leastUrgentFor_53 ?_
      refine J_iload_n 3 rfl dX0_leastUrgentFor_4 ?_
      refine J_aload_n 0 rfl dX0_leastUrgentFor_5 ?_
      refine gf_0_11 (n3 _) dX0_leastUrgentFor_6 ?_
      refine J_alen (v := 3) 5 (n14 _) rfl rfl rfl dX0_leastUrgentFor_9 ?_
      refine J_icmp_ge 56 (by decide) dX0_leastUrgentFor_10 (fun c67 => ?_) (fun c67 => ?_)
      · exact absurd c67 (by decide)
      refine J_aload_n 0 rfl dX0_leastUrgentFor_13 ?_
      refine gf_0_11 (n3 _) dX0_leastUrgentFor_14 ?_
      refine J_iload_n 3 rfl dX0_leastUrgentFor_17 ?_
      refine J_aald 1 5 (n14 _) rfl rfl (vp_in_iff.mpr (by decide)) (by decide) dX0_leastUrgentFor_18 ?_
      rcases opt_split (R 14 0 1) with o68 | ⟨a69, o68⟩
      · skip
        refine J_topv (v' := .null) (by first | rfl | (rw [o68]; rfl)) ?_
        refine J_astoreN (lv' := [(0, .ref (ka S 3 0)), (1, .ref a), (2, .ref a3), (3, .int 1), (4, .null)]) (by decide) rfl dX0_leastUrgentFor_19 ?_
        refine J_aloadN 4 rfl dX0_leastUrgentFor_21 ?_
        refine J_ifnullN 50 (by decide) dX0_leastUrgentFor_23 ?_
        refine J_iinc (v := 2) (lv' := [(0, .ref (ka S 3 0)), (1, .ref a), (2, .ref a3), (3, .int 2), (4, .null)]) 3 rfl (by decide) (by decide) rfl dX0_leastUrgentFor_50 ?_
        refine J_goto 4 (by decide) dX0_leastUrgentFor_53 ?_
        refine J_iload_n 3 rfl dX0_leastUrgentFor_4 ?_
        refine J_aload_n 0 rfl dX0_leastUrgentFor_5 ?_
        refine gf_0_11 (n3 _) dX0_leastUrgentFor_6 ?_
        refine J_alen (v := 3) 5 (n14 _) rfl rfl rfl dX0_leastUrgentFor_9 ?_
        refine J_icmp_ge 56 (by decide) dX0_leastUrgentFor_10 (fun c71 => ?_) (fun c71 => ?_)
        · exact absurd c71 (by decide)
        refine J_aload_n 0 rfl dX0_leastUrgentFor_13 ?_
        refine gf_0_11 (n3 _) dX0_leastUrgentFor_14 ?_
        refine J_iload_n 3 rfl dX0_leastUrgentFor_17 ?_
        refine J_aald 2 5 (n14 _) rfl rfl (vp_in_iff.mpr (by decide)) (by decide) dX0_leastUrgentFor_18 ?_
        rcases opt_split (R 14 0 2) with o72 | ⟨a73, o72⟩
        · skip
          refine J_topv (v' := .null) (by first | rfl | (rw [o72]; rfl)) ?_
          refine J_astoreN (lv' := [(0, .ref (ka S 3 0)), (1, .ref a), (2, .ref a3), (3, .int 2), (4, .null)]) (by decide) rfl dX0_leastUrgentFor_19 ?_
          refine J_aloadN 4 rfl dX0_leastUrgentFor_21 ?_
          refine J_ifnullN 50 (by decide) dX0_leastUrgentFor_23 ?_
          refine J_iinc (v := 3) (lv' := [(0, .ref (ka S 3 0)), (1, .ref a), (2, .ref a3), (3, .int 3), (4, .null)]) 3 rfl (by decide) (by decide) rfl dX0_leastUrgentFor_50 ?_
          refine J_goto 4 (by decide) dX0_leastUrgentFor_53 ?_
          refine J_iload_n 3 rfl dX0_leastUrgentFor_4 ?_
          refine J_aload_n 0 rfl dX0_leastUrgentFor_5 ?_
          refine gf_0_11 (n3 _) dX0_leastUrgentFor_6 ?_
          refine J_alen (v := 3) 5 (n14 _) rfl rfl rfl dX0_leastUrgentFor_9 ?_
          refine J_icmp_ge 56 (by decide) dX0_leastUrgentFor_10 (fun c75 => ?_) (fun c75 => ?_)
          rotate_left
          · exact absurd (by decide) c75
          refine J_aload_n 2 rfl dX0_leastUrgentFor_56 ?_
          exact J_areturn rfl (by first | exact Or.inl ⟨_, rfl⟩ | exact Or.inr ⟨_, rfl⟩) (by first | exact Or.inl rfl | exact Or.inr ⟨_, rfl⟩ | exact va_rf_or _) dX0_leastUrgentFor_57 (⟨by (try simp only [kb_0, kb_1, kb_n0, kb_n1, decide_eq_false_iff_not, decide_eq_true_eq, ne_eq, Classical.not_not] at *); first | (simp [kb, kb_0, kb_1, vr_n, vr_s, leaF, may_1, may_2, luF_n, luF_s1, luF_s2, *]; done) | (simp [kb, kb_0, kb_1, vr_n, vr_s, leaF, may_1, may_2, luF_n, luF_s1, luF_s2, *] <;> grind), rfl⟩) (by omega) (by omega)
        · skip
          have ma73 : a73 ∈ LP := hsp _ _ (by decide) o72
          refine J_topv (v' := .ref a73) (by first | rfl | (rw [o72]; rfl)) ?_
          refine J_astore (lv' := [(0, .ref (ka S 3 0)), (1, .ref a), (2, .ref a3), (3, .int 2), (4, .ref a73)]) (by decide) rfl dX0_leastUrgentFor_19 ?_
          refine J_aload 4 rfl dX0_leastUrgentFor_21 ?_
          refine J_ifnull dX0_leastUrgentFor_23 ?_
          refine J_aload_n 1 rfl dX0_leastUrgentFor_26 ?_
          refine J_iload_n 3 rfl dX0_leastUrgentFor_27 ?_
          refine cv_0_29 (cells' := 0) (slots' := 0) dX0_leastUrgentFor_28 (c_X5_mayHave (by assumption)) (n20 (by assumption)) ⟨by decide, by decide⟩ rfl rfl (by decide) (by decide) (Nat.le_of_ble_eq_true rfl) (fun _ _ r76 => ?_) (fun _ _ h => h.elim)
          obtain ⟨rfl, rfl⟩ := r76
          refine J_eq (st' := [.int (kb (mayF I a 2))]) rfl rfl rfl ?_
          refine J_topv (v' := .int 1) (by first | rfl | (rw [may_2]; rfl)) ?_
          refine J_if_eq 50 (by decide) dX0_leastUrgentFor_31 (fun c77 => ?_) (fun c77 => ?_)
          · exact absurd c77 (by decide)
          refine J_aload_n 2 rfl dX0_leastUrgentFor_34 ?_
          refine J_ifnull dX0_leastUrgentFor_35 ?_
          refine J_aload 4 rfl dX0_leastUrgentFor_38 ?_
          refine J_aload_n 2 rfl dX0_leastUrgentFor_40 ?_
          refine cv_0_32 (i := 0) (cells' := 0) (slots' := 0) dX0_leastUrgentFor_41 (c_X0_isEasierToInterrupt (by assumption) (by assumption)) ⟨by decide, by decide⟩ rfl rfl (by decide) (by decide) (Nat.le_of_ble_eq_true rfl) (fun _ _ r78 => ?_) (fun _ _ h => h.elim)
          obtain ⟨rfl, rfl⟩ := r78
          refine J_eq (st' := [.int (kb (easF I a73 a3))]) rfl rfl rfl ?_
          refine J_if_eq 50 (by decide) dX0_leastUrgentFor_44 (fun c79 => ?_) (fun c79 => ?_)
          · skip
            refine J_iinc (v := 3) (lv' := [(0, .ref (ka S 3 0)), (1, .ref a), (2, .ref a3), (3, .int 3), (4, .ref a73)]) 3 rfl (by decide) (by decide) rfl dX0_leastUrgentFor_50 ?_
            refine J_goto 4 (by decide) dX0_leastUrgentFor_53 ?_
            refine J_iload_n 3 rfl dX0_leastUrgentFor_4 ?_
            refine J_aload_n 0 rfl dX0_leastUrgentFor_5 ?_
            refine gf_0_11 (n3 _) dX0_leastUrgentFor_6 ?_
            refine J_alen (v := 3) 5 (n14 _) rfl rfl rfl dX0_leastUrgentFor_9 ?_
            refine J_icmp_ge 56 (by decide) dX0_leastUrgentFor_10 (fun c81 => ?_) (fun c81 => ?_)
            rotate_left
            · exact absurd (by decide) c81
            refine J_aload_n 2 rfl dX0_leastUrgentFor_56 ?_
            exact J_areturn rfl (by first | exact Or.inl ⟨_, rfl⟩ | exact Or.inr ⟨_, rfl⟩) (by first | exact Or.inl rfl | exact Or.inr ⟨_, rfl⟩ | exact va_rf_or _) dX0_leastUrgentFor_57 (⟨by (try simp only [kb_0, kb_1, kb_n0, kb_n1, decide_eq_false_iff_not, decide_eq_true_eq, ne_eq, Classical.not_not] at *); first | (simp [kb, kb_0, kb_1, vr_n, vr_s, leaF, may_1, may_2, luF_n, luF_s1, luF_s2, *]; done) | (simp [kb, kb_0, kb_1, vr_n, vr_s, leaF, may_1, may_2, luF_n, luF_s1, luF_s2, *] <;> grind), rfl⟩) (by omega) (by omega)
          · skip
            refine J_aload 4 rfl dX0_leastUrgentFor_47 ?_
            refine J_astore_n (lv' := [(0, .ref (ka S 3 0)), (1, .ref a), (2, .ref a73), (3, .int 2), (4, .ref a73)]) (by decide) rfl dX0_leastUrgentFor_49 ?_
            refine J_iinc (v := 3) (lv' := [(0, .ref (ka S 3 0)), (1, .ref a), (2, .ref a73), (3, .int 3), (4, .ref a73)]) 3 rfl (by decide) (by decide) rfl dX0_leastUrgentFor_50 ?_
            refine J_goto 4 (by decide) dX0_leastUrgentFor_53 ?_
            refine J_iload_n 3 rfl dX0_leastUrgentFor_4 ?_
            refine J_aload_n 0 rfl dX0_leastUrgentFor_5 ?_
            refine gf_0_11 (n3 _) dX0_leastUrgentFor_6 ?_
            refine J_alen (v := 3) 5 (n14 _) rfl rfl rfl dX0_leastUrgentFor_9 ?_
            refine J_icmp_ge 56 (by decide) dX0_leastUrgentFor_10 (fun c83 => ?_) (fun c83 => ?_)
            rotate_left
            · exact absurd (by decide) c83
            refine J_aload_n 2 rfl dX0_leastUrgentFor_56 ?_
            exact J_areturn rfl (by first | exact Or.inl ⟨_, rfl⟩ | exact Or.inr ⟨_, rfl⟩) (by first | exact Or.inl rfl | exact Or.inr ⟨_, rfl⟩ | exact va_rf_or _) dX0_leastUrgentFor_57 (⟨by (try simp only [kb_0, kb_1, kb_n0, kb_n1, decide_eq_false_iff_not, decide_eq_true_eq, ne_eq, Classical.not_not] at *); first | (simp [kb, kb_0, kb_1, vr_n, vr_s, leaF, may_1, may_2, luF_n, luF_s1, luF_s2, *]; done) | (simp [kb, kb_0, kb_1, vr_n, vr_s, leaF, may_1, may_2, luF_n, luF_s1, luF_s2, *] <;> grind), rfl⟩) (by omega) (by omega)
      · skip
        have ma69 : a69 ∈ LP := hsp _ _ (by decide) o68
        refine J_topv (v' := .ref a69) (by first | rfl | (rw [o68]; rfl)) ?_
        refine J_astore (lv' := [(0, .ref (ka S 3 0)), (1, .ref a), (2, .ref a3), (3, .int 1), (4, .ref a69)]) (by decide) rfl dX0_leastUrgentFor_19 ?_
        refine J_aload 4 rfl dX0_leastUrgentFor_21 ?_
        refine J_ifnull dX0_leastUrgentFor_23 ?_
        refine J_aload_n 1 rfl dX0_leastUrgentFor_26 ?_
        refine J_iload_n 3 rfl dX0_leastUrgentFor_27 ?_
        refine cv_0_29 (cells' := 0) (slots' := 0) dX0_leastUrgentFor_28 (c_X5_mayHave (by assumption)) (n20 (by assumption)) ⟨by decide, by decide⟩ rfl rfl (by decide) (by decide) (Nat.le_of_ble_eq_true rfl) (fun _ _ r84 => ?_) (fun _ _ h => h.elim)
        obtain ⟨rfl, rfl⟩ := r84
        refine J_eq (st' := [.int (kb (mayF I a 1))]) rfl rfl rfl ?_
        refine J_topv (v' := .int 1) (by first | rfl | (rw [may_1]; rfl)) ?_
        refine J_if_eq 50 (by decide) dX0_leastUrgentFor_31 (fun c85 => ?_) (fun c85 => ?_)
        · exact absurd c85 (by decide)
        refine J_aload_n 2 rfl dX0_leastUrgentFor_34 ?_
        refine J_ifnull dX0_leastUrgentFor_35 ?_
        refine J_aload 4 rfl dX0_leastUrgentFor_38 ?_
        refine J_aload_n 2 rfl dX0_leastUrgentFor_40 ?_
        refine cv_0_32 (i := 0) (cells' := 0) (slots' := 0) dX0_leastUrgentFor_41 (c_X0_isEasierToInterrupt (by assumption) (by assumption)) ⟨by decide, by decide⟩ rfl rfl (by decide) (by decide) (Nat.le_of_ble_eq_true rfl) (fun _ _ r86 => ?_) (fun _ _ h => h.elim)
        obtain ⟨rfl, rfl⟩ := r86
        refine J_eq (st' := [.int (kb (easF I a69 a3))]) rfl rfl rfl ?_
        refine J_if_eq 50 (by decide) dX0_leastUrgentFor_44 (fun c87 => ?_) (fun c87 => ?_)
        · skip
          refine J_iinc (v := 2) (lv' := [(0, .ref (ka S 3 0)), (1, .ref a), (2, .ref a3), (3, .int 2), (4, .ref a69)]) 3 rfl (by decide) (by decide) rfl dX0_leastUrgentFor_50 ?_
          refine J_goto 4 (by decide) dX0_leastUrgentFor_53 ?_
          refine J_iload_n 3 rfl dX0_leastUrgentFor_4 ?_
          refine J_aload_n 0 rfl dX0_leastUrgentFor_5 ?_
          refine gf_0_11 (n3 _) dX0_leastUrgentFor_6 ?_
          refine J_alen (v := 3) 5 (n14 _) rfl rfl rfl dX0_leastUrgentFor_9 ?_
          refine J_icmp_ge 56 (by decide) dX0_leastUrgentFor_10 (fun c89 => ?_) (fun c89 => ?_)
          · exact absurd c89 (by decide)
          refine J_aload_n 0 rfl dX0_leastUrgentFor_13 ?_
          refine gf_0_11 (n3 _) dX0_leastUrgentFor_14 ?_
          refine J_iload_n 3 rfl dX0_leastUrgentFor_17 ?_
          refine J_aald 2 5 (n14 _) rfl rfl (vp_in_iff.mpr (by decide)) (by decide) dX0_leastUrgentFor_18 ?_
          rcases opt_split (R 14 0 2) with o90 | ⟨a91, o90⟩
          · skip
            refine J_topv (v' := .null) (by first | rfl | (rw [o90]; rfl)) ?_
            refine J_astoreN (lv' := [(0, .ref (ka S 3 0)), (1, .ref a), (2, .ref a3), (3, .int 2), (4, .null)]) (by decide) rfl dX0_leastUrgentFor_19 ?_
            refine J_aloadN 4 rfl dX0_leastUrgentFor_21 ?_
            refine J_ifnullN 50 (by decide) dX0_leastUrgentFor_23 ?_
            refine J_iinc (v := 3) (lv' := [(0, .ref (ka S 3 0)), (1, .ref a), (2, .ref a3), (3, .int 3), (4, .null)]) 3 rfl (by decide) (by decide) rfl dX0_leastUrgentFor_50 ?_
            refine J_goto 4 (by decide) dX0_leastUrgentFor_53 ?_
            refine J_iload_n 3 rfl dX0_leastUrgentFor_4 ?_
            refine J_aload_n 0 rfl dX0_leastUrgentFor_5 ?_
            refine gf_0_11 (n3 _) dX0_leastUrgentFor_6 ?_
            refine J_alen (v := 3) 5 (n14 _) rfl rfl rfl dX0_leastUrgentFor_9 ?_
            refine J_icmp_ge 56 (by decide) dX0_leastUrgentFor_10 (fun c93 => ?_) (fun c93 => ?_)
            rotate_left
            · exact absurd (by decide) c93
            refine J_aload_n 2 rfl dX0_leastUrgentFor_56 ?_
            exact J_areturn rfl (by first | exact Or.inl ⟨_, rfl⟩ | exact Or.inr ⟨_, rfl⟩) (by first | exact Or.inl rfl | exact Or.inr ⟨_, rfl⟩ | exact va_rf_or _) dX0_leastUrgentFor_57 (⟨by (try simp only [kb_0, kb_1, kb_n0, kb_n1, decide_eq_false_iff_not, decide_eq_true_eq, ne_eq, Classical.not_not] at *); first | (simp [kb, kb_0, kb_1, vr_n, vr_s, leaF, may_1, may_2, luF_n, luF_s1, luF_s2, *]; done) | (simp [kb, kb_0, kb_1, vr_n, vr_s, leaF, may_1, may_2, luF_n, luF_s1, luF_s2, *] <;> grind), rfl⟩) (by omega) (by omega)
          · skip
            have ma91 : a91 ∈ LP := hsp _ _ (by decide) o90
            refine J_topv (v' := .ref a91) (by first | rfl | (rw [o90]; rfl)) ?_
            refine J_astore (lv' := [(0, .ref (ka S 3 0)), (1, .ref a), (2, .ref a3), (3, .int 2), (4, .ref a91)]) (by decide) rfl dX0_leastUrgentFor_19 ?_
            refine J_aload 4 rfl dX0_leastUrgentFor_21 ?_
            refine J_ifnull dX0_leastUrgentFor_23 ?_
            refine J_aload_n 1 rfl dX0_leastUrgentFor_26 ?_
            refine J_iload_n 3 rfl dX0_leastUrgentFor_27 ?_
            refine cv_0_29 (cells' := 0) (slots' := 0) dX0_leastUrgentFor_28 (c_X5_mayHave (by assumption)) (n20 (by assumption)) ⟨by decide, by decide⟩ rfl rfl (by decide) (by decide) (Nat.le_of_ble_eq_true rfl) (fun _ _ r94 => ?_) (fun _ _ h => h.elim)
            obtain ⟨rfl, rfl⟩ := r94
            refine J_eq (st' := [.int (kb (mayF I a 2))]) rfl rfl rfl ?_
            refine J_topv (v' := .int 1) (by first | rfl | (rw [may_2]; rfl)) ?_
            refine J_if_eq 50 (by decide) dX0_leastUrgentFor_31 (fun c95 => ?_) (fun c95 => ?_)
            · exact absurd c95 (by decide)
            refine J_aload_n 2 rfl dX0_leastUrgentFor_34 ?_
            refine J_ifnull dX0_leastUrgentFor_35 ?_
            refine J_aload 4 rfl dX0_leastUrgentFor_38 ?_
            refine J_aload_n 2 rfl dX0_leastUrgentFor_40 ?_
            refine cv_0_32 (i := 0) (cells' := 0) (slots' := 0) dX0_leastUrgentFor_41 (c_X0_isEasierToInterrupt (by assumption) (by assumption)) ⟨by decide, by decide⟩ rfl rfl (by decide) (by decide) (Nat.le_of_ble_eq_true rfl) (fun _ _ r96 => ?_) (fun _ _ h => h.elim)
            obtain ⟨rfl, rfl⟩ := r96
            refine J_eq (st' := [.int (kb (easF I a91 a3))]) rfl rfl rfl ?_
            refine J_if_eq 50 (by decide) dX0_leastUrgentFor_44 (fun c97 => ?_) (fun c97 => ?_)
            · skip
              refine J_iinc (v := 3) (lv' := [(0, .ref (ka S 3 0)), (1, .ref a), (2, .ref a3), (3, .int 3), (4, .ref a91)]) 3 rfl (by decide) (by decide) rfl dX0_leastUrgentFor_50 ?_
              refine J_goto 4 (by decide) dX0_leastUrgentFor_53 ?_
              refine J_iload_n 3 rfl dX0_leastUrgentFor_4 ?_
              refine J_aload_n 0 rfl dX0_leastUrgentFor_5 ?_
              refine gf_0_11 (n3 _) dX0_leastUrgentFor_6 ?_
              refine J_alen (v := 3) 5 (n14 _) rfl rfl rfl dX0_leastUrgentFor_9 ?_
              refine J_icmp_ge 56 (by decide) dX0_leastUrgentFor_10 (fun c99 => ?_) (fun c99 => ?_)
              rotate_left
              · exact absurd (by decide) c99
              refine J_aload_n 2 rfl dX0_leastUrgentFor_56 ?_
              exact J_areturn rfl (by first | exact Or.inl ⟨_, rfl⟩ | exact Or.inr ⟨_, rfl⟩) (by first | exact Or.inl rfl | exact Or.inr ⟨_, rfl⟩ | exact va_rf_or _) dX0_leastUrgentFor_57 (⟨by (try simp only [kb_0, kb_1, kb_n0, kb_n1, decide_eq_false_iff_not, decide_eq_true_eq, ne_eq, Classical.not_not] at *); first | (simp [kb, kb_0, kb_1, vr_n, vr_s, leaF, may_1, may_2, luF_n, luF_s1, luF_s2, *]; done) | (simp [kb, kb_0, kb_1, vr_n, vr_s, leaF, may_1, may_2, luF_n, luF_s1, luF_s2, *] <;> grind), rfl⟩) (by omega) (by omega)
            · skip
              refine J_aload 4 rfl dX0_leastUrgentFor_47 ?_
              refine J_astore_n (lv' := [(0, .ref (ka S 3 0)), (1, .ref a), (2, .ref a91), (3, .int 2), (4, .ref a91)]) (by decide) rfl dX0_leastUrgentFor_49 ?_
              refine J_iinc (v := 3) (lv' := [(0, .ref (ka S 3 0)), (1, .ref a), (2, .ref a91), (3, .int 3), (4, .ref a91)]) 3 rfl (by decide) (by decide) rfl dX0_leastUrgentFor_50 ?_
              refine J_goto 4 (by decide) dX0_leastUrgentFor_53 ?_
              refine J_iload_n 3 rfl dX0_leastUrgentFor_4 ?_
              refine J_aload_n 0 rfl dX0_leastUrgentFor_5 ?_
              refine gf_0_11 (n3 _) dX0_leastUrgentFor_6 ?_
              refine J_alen (v := 3) 5 (n14 _) rfl rfl rfl dX0_leastUrgentFor_9 ?_
              refine J_icmp_ge 56 (by decide) dX0_leastUrgentFor_10 (fun c101 => ?_) (fun c101 => ?_)
              rotate_left
              · exact absurd (by decide) c101
              refine J_aload_n 2 rfl dX0_leastUrgentFor_56 ?_
              exact J_areturn rfl (by first | exact Or.inl ⟨_, rfl⟩ | exact Or.inr ⟨_, rfl⟩) (by first | exact Or.inl rfl | exact Or.inr ⟨_, rfl⟩ | exact va_rf_or _) dX0_leastUrgentFor_57 (⟨by (try simp only [kb_0, kb_1, kb_n0, kb_n1, decide_eq_false_iff_not, decide_eq_true_eq, ne_eq, Classical.not_not] at *); first | (simp [kb, kb_0, kb_1, vr_n, vr_s, leaF, may_1, may_2, luF_n, luF_s1, luF_s2, *]; done) | (simp [kb, kb_0, kb_1, vr_n, vr_s, leaF, may_1, may_2, luF_n, luF_s1, luF_s2, *] <;> grind), rfl⟩) (by omega) (by omega)
        · skip
          refine J_aload 4 rfl dX0_leastUrgentFor_47 ?_
          refine J_astore_n (lv' := [(0, .ref (ka S 3 0)), (1, .ref a), (2, .ref a69), (3, .int 1), (4, .ref a69)]) (by decide) rfl dX0_leastUrgentFor_49 ?_
          refine J_iinc (v := 2) (lv' := [(0, .ref (ka S 3 0)), (1, .ref a), (2, .ref a69), (3, .int 2), (4, .ref a69)]) 3 rfl (by decide) (by decide) rfl dX0_leastUrgentFor_50 ?_
          refine J_goto 4 (by decide) dX0_leastUrgentFor_53 ?_
          refine J_iload_n 3 rfl dX0_leastUrgentFor_4 ?_
          refine J_aload_n 0 rfl dX0_leastUrgentFor_5 ?_
          refine gf_0_11 (n3 _) dX0_leastUrgentFor_6 ?_
          refine J_alen (v := 3) 5 (n14 _) rfl rfl rfl dX0_leastUrgentFor_9 ?_
          refine J_icmp_ge 56 (by decide) dX0_leastUrgentFor_10 (fun c103 => ?_) (fun c103 => ?_)
          · exact absurd c103 (by decide)
          refine J_aload_n 0 rfl dX0_leastUrgentFor_13 ?_
          refine gf_0_11 (n3 _) dX0_leastUrgentFor_14 ?_
          refine J_iload_n 3 rfl dX0_leastUrgentFor_17 ?_
          refine J_aald 2 5 (n14 _) rfl rfl (vp_in_iff.mpr (by decide)) (by decide) dX0_leastUrgentFor_18 ?_
          rcases opt_split (R 14 0 2) with o104 | ⟨a105, o104⟩
          · skip
            refine J_topv (v' := .null) (by first | rfl | (rw [o104]; rfl)) ?_
            refine J_astoreN (lv' := [(0, .ref (ka S 3 0)), (1, .ref a), (2, .ref a69), (3, .int 2), (4, .null)]) (by decide) rfl dX0_leastUrgentFor_19 ?_
            refine J_aloadN 4 rfl dX0_leastUrgentFor_21 ?_
            refine J_ifnullN 50 (by decide) dX0_leastUrgentFor_23 ?_
            refine J_iinc (v := 3) (lv' := [(0, .ref (ka S 3 0)), (1, .ref a), (2, .ref a69), (3, .int 3), (4, .null)]) 3 rfl (by decide) (by decide) rfl dX0_leastUrgentFor_50 ?_
            refine J_goto 4 (by decide) dX0_leastUrgentFor_53 ?_
            refine J_iload_n 3 rfl dX0_leastUrgentFor_4 ?_
            refine J_aload_n 0 rfl dX0_leastUrgentFor_5 ?_
            refine gf_0_11 (n3 _) dX0_leastUrgentFor_6 ?_
            refine J_alen (v := 3) 5 (n14 _) rfl rfl rfl dX0_leastUrgentFor_9 ?_
            refine J_icmp_ge 56 (by decide) dX0_leastUrgentFor_10 (fun c107 => ?_) (fun c107 => ?_)
            rotate_left
            · exact absurd (by decide) c107
            refine J_aload_n 2 rfl dX0_leastUrgentFor_56 ?_
            exact J_areturn rfl (by first | exact Or.inl ⟨_, rfl⟩ | exact Or.inr ⟨_, rfl⟩) (by first | exact Or.inl rfl | exact Or.inr ⟨_, rfl⟩ | exact va_rf_or _) dX0_leastUrgentFor_57 (⟨by (try simp only [kb_0, kb_1, kb_n0, kb_n1, decide_eq_false_iff_not, decide_eq_true_eq, ne_eq, Classical.not_not] at *); first | (simp [kb, kb_0, kb_1, vr_n, vr_s, leaF, may_1, may_2, luF_n, luF_s1, luF_s2, *]; done) | (simp [kb, kb_0, kb_1, vr_n, vr_s, leaF, may_1, may_2, luF_n, luF_s1, luF_s2, *] <;> grind), rfl⟩) (by omega) (by omega)
          · skip
            have ma105 : a105 ∈ LP := hsp _ _ (by decide) o104
            refine J_topv (v' := .ref a105) (by first | rfl | (rw [o104]; rfl)) ?_
            refine J_astore (lv' := [(0, .ref (ka S 3 0)), (1, .ref a), (2, .ref a69), (3, .int 2), (4, .ref a105)]) (by decide) rfl dX0_leastUrgentFor_19 ?_
            refine J_aload 4 rfl dX0_leastUrgentFor_21 ?_
            refine J_ifnull dX0_leastUrgentFor_23 ?_
            refine J_aload_n 1 rfl dX0_leastUrgentFor_26 ?_
            refine J_iload_n 3 rfl dX0_leastUrgentFor_27 ?_
            refine cv_0_29 (cells' := 0) (slots' := 0) dX0_leastUrgentFor_28 (c_X5_mayHave (by assumption)) (n20 (by assumption)) ⟨by decide, by decide⟩ rfl rfl (by decide) (by decide) (Nat.le_of_ble_eq_true rfl) (fun _ _ r108 => ?_) (fun _ _ h => h.elim)
            obtain ⟨rfl, rfl⟩ := r108
            refine J_eq (st' := [.int (kb (mayF I a 2))]) rfl rfl rfl ?_
            refine J_topv (v' := .int 1) (by first | rfl | (rw [may_2]; rfl)) ?_
            refine J_if_eq 50 (by decide) dX0_leastUrgentFor_31 (fun c109 => ?_) (fun c109 => ?_)
            · exact absurd c109 (by decide)
            refine J_aload_n 2 rfl dX0_leastUrgentFor_34 ?_
            refine J_ifnull dX0_leastUrgentFor_35 ?_
            refine J_aload 4 rfl dX0_leastUrgentFor_38 ?_
            refine J_aload_n 2 rfl dX0_leastUrgentFor_40 ?_
            refine cv_0_32 (i := 0) (cells' := 0) (slots' := 0) dX0_leastUrgentFor_41 (c_X0_isEasierToInterrupt (by assumption) (by assumption)) ⟨by decide, by decide⟩ rfl rfl (by decide) (by decide) (Nat.le_of_ble_eq_true rfl) (fun _ _ r110 => ?_) (fun _ _ h => h.elim)
            obtain ⟨rfl, rfl⟩ := r110
            refine J_eq (st' := [.int (kb (easF I a105 a69))]) rfl rfl rfl ?_
            refine J_if_eq 50 (by decide) dX0_leastUrgentFor_44 (fun c111 => ?_) (fun c111 => ?_)
            · skip
              refine J_iinc (v := 3) (lv' := [(0, .ref (ka S 3 0)), (1, .ref a), (2, .ref a69), (3, .int 3), (4, .ref a105)]) 3 rfl (by decide) (by decide) rfl dX0_leastUrgentFor_50 ?_
              refine J_goto 4 (by decide) dX0_leastUrgentFor_53 ?_
              refine J_iload_n 3 rfl dX0_leastUrgentFor_4 ?_
              refine J_aload_n 0 rfl dX0_leastUrgentFor_5 ?_
              refine gf_0_11 (n3 _) dX0_leastUrgentFor_6 ?_
              refine J_alen (v := 3) 5 (n14 _) rfl rfl rfl dX0_leastUrgentFor_9 ?_
              refine J_icmp_ge 56 (by decide) dX0_leastUrgentFor_10 (fun c113 => ?_) (fun c113 => ?_)
              rotate_left
              · exact absurd (by decide) c113
              refine J_aload_n 2 rfl dX0_leastUrgentFor_56 ?_
              exact J_areturn rfl (by first | exact Or.inl ⟨_, rfl⟩ | exact Or.inr ⟨_, rfl⟩) (by first | exact Or.inl rfl | exact Or.inr ⟨_, rfl⟩ | exact va_rf_or _) dX0_leastUrgentFor_57 (⟨by (try simp only [kb_0, kb_1, kb_n0, kb_n1, decide_eq_false_iff_not, decide_eq_true_eq, ne_eq, Classical.not_not] at *); first | (simp [kb, kb_0, kb_1, vr_n, vr_s, leaF, may_1, may_2, luF_n, luF_s1, luF_s2, *]; done) | (simp [kb, kb_0, kb_1, vr_n, vr_s, leaF, may_1, may_2, luF_n, luF_s1, luF_s2, *] <;> grind), rfl⟩) (by omega) (by omega)
            · skip
              refine J_aload 4 rfl dX0_leastUrgentFor_47 ?_
              refine J_astore_n (lv' := [(0, .ref (ka S 3 0)), (1, .ref a), (2, .ref a105), (3, .int 2), (4, .ref a105)]) (by decide) rfl dX0_leastUrgentFor_49 ?_
              refine J_iinc (v := 3) (lv' := [(0, .ref (ka S 3 0)), (1, .ref a), (2, .ref a105), (3, .int 3), (4, .ref a105)]) 3 rfl (by decide) (by decide) rfl dX0_leastUrgentFor_50 ?_
              refine J_goto 4 (by decide) dX0_leastUrgentFor_53 ?_
              refine J_iload_n 3 rfl dX0_leastUrgentFor_4 ?_
              refine J_aload_n 0 rfl dX0_leastUrgentFor_5 ?_
              refine gf_0_11 (n3 _) dX0_leastUrgentFor_6 ?_
              refine J_alen (v := 3) 5 (n14 _) rfl rfl rfl dX0_leastUrgentFor_9 ?_
              refine J_icmp_ge 56 (by decide) dX0_leastUrgentFor_10 (fun c115 => ?_) (fun c115 => ?_)
              rotate_left
              · exact absurd (by decide) c115
              refine J_aload_n 2 rfl dX0_leastUrgentFor_56 ?_
              exact J_areturn rfl (by first | exact Or.inl ⟨_, rfl⟩ | exact Or.inr ⟨_, rfl⟩) (by first | exact Or.inl rfl | exact Or.inr ⟨_, rfl⟩ | exact va_rf_or _) dX0_leastUrgentFor_57 (⟨by (try simp only [kb_0, kb_1, kb_n0, kb_n1, decide_eq_false_iff_not, decide_eq_true_eq, ne_eq, Classical.not_not] at *); first | (simp [kb, kb_0, kb_1, vr_n, vr_s, leaF, may_1, may_2, luF_n, luF_s1, luF_s2, *]; done) | (simp [kb, kb_0, kb_1, vr_n, vr_s, leaF, may_1, may_2, luF_n, luF_s1, luF_s2, *] <;> grind), rfl⟩) (by omega) (by omega)

