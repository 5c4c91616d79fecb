/-! Channels, its loops unrolled: what stands on the three channels is R 14 0 0, R 14 0 1, R 14 0 2 -/
def inLP (R : kRf) (k n : Nat) (LP : List Nat) : Prop := ∀ j a, j < n → R k 0 j = some a → a ∈ LP
def shF (I : kI) (v : Int32) (r : Option Nat) : Bool := match r with
  | none => false
  | some a => shrF I a v
def holdF (I : kI) (R : kRf) (v : Int32) : Option Nat := if shF I v (R 14 0 0) then R 14 0 0 else if shF I v (R 14 0 1) then R 14 0 1 else if shF I v (R 14 0 2) then R 14 0 2 else none
def busyF (R : kRf) : Int32 := (if R 14 0 0 = none then 0 else 1) + (if R 14 0 1 = none then 0 else 1) + (if R 14 0 2 = none then 0 else 1)
theorem shF_none {I : kI} {v : Int32} : shF I v none = false := rfl
theorem shF_some {I : kI} {v : Int32} {a : Nat} : shF I v (some a) = shrF I a v := rfl


set_option maxRecDepth 20000 in
theorem c_X0_holderOf {cy : Nat → ClassId} {S : Nat → Nat → Nat} {I : kI} {L : kL} {R : kRf} {LP : List Nat} {s : Int32} (hsp : inLP R 14 3 LP)  : Con yX0_holderOf cX0_holderOf 4 (some (.object "FoghornExchange$RadioCall")) 1 0 0 cy [.ref (ka S 3 0), .int s] (wc cy S I L R LP) (kRet (some (va_rf (holdF I R (1 <<< (s &&& 31))))) (wc cy S I L R LP)) kF := by
  refine Con_of (by decide +kernel) (Nat.le_of_ble_eq_true rfl) ?_
  refine J_eq (lv' := [(0, .ref (ka S 3 0)), (1, .int s)]) rfl rfl rfl ?_
  refine J_iconst (v := 0) (by decide) dX0_holderOf_0 ?_
  refine J_istore_n (lv' := [(0, .ref (ka S 3 0)), (1, .int s), (2, .int 0)]) (by decide) rfl dX0_holderOf_1 ?_
  refine J_iload_n 2 rfl dX0_holderOf_2 ?_
  refine J_aload_n 0 rfl dX0_holderOf_3 ?_
  refine gf_0_11 (n3 _) dX0_holderOf_4 ?_
  refine J_alen (v := 3) 5 (n14 _) rfl rfl rfl dX0_holderOf_7 ?_
  refine J_icmp_ge 40 (by decide) dX0_holderOf_8 (fun c1 => ?_) (fun c1 => ?_)
  · exact absurd c1 (by decide)
  refine J_aload_n 0 rfl dX0_holderOf_11 ?_
  refine gf_0_11 (n3 _) dX0_holderOf_12 ?_
  refine J_iload_n 2 rfl dX0_holderOf_15 ?_
  refine J_aald 0 5 (n14 _) rfl rfl (vp_in_iff.mpr (by decide)) (by decide) dX0_holderOf_16 ?_
  rcases opt_split (R 14 0 0) with o2 | ⟨a3, o2⟩
  · skip
    refine J_topv (v' := .null) (by first | rfl | (rw [o2]; rfl)) ?_
    refine J_astore_nN (lv' := [(0, .ref (ka S 3 0)), (1, .int s), (2, .int 0), (3, .null)]) (by decide) rfl dX0_holderOf_17 ?_
    refine J_aload_nN 3 rfl dX0_holderOf_18 ?_
    refine J_ifnullN 34 (by decide) dX0_holderOf_19 ?_
    refine J_iinc (v := 1) (lv' := [(0, .ref (ka S 3 0)), (1, .int s), (2, .int 1), (3, .null)]) 2 rfl (by decide) (by decide) rfl dX0_holderOf_34 ?_
    refine J_goto 2 (by decide) dX0_holderOf_37 ?_
    refine J_iload_n 2 rfl dX0_holderOf_2 ?_
    refine J_aload_n 0 rfl dX0_holderOf_3 ?_
    refine gf_0_11 (n3 _) dX0_holderOf_4 ?_
    refine J_alen (v := 3) 5 (n14 _) rfl rfl rfl dX0_holderOf_7 ?_
    refine J_icmp_ge 40 (by decide) dX0_holderOf_8 (fun c5 => ?_) (fun c5 => ?_)
    · exact absurd c5 (by decide)
    refine J_aload_n 0 rfl dX0_holderOf_11 ?_
    refine gf_0_11 (n3 _) dX0_holderOf_12 ?_
    refine J_iload_n 2 rfl dX0_holderOf_15 ?_
    refine J_aald 1 5 (n14 _) rfl rfl (vp_in_iff.mpr (by decide)) (by decide) dX0_holderOf_16 ?_
    rcases opt_split (R 14 0 1) with o6 | ⟨a7, o6⟩
    · skip
      refine J_topv (v' := .null) (by first | rfl | (rw [o6]; rfl)) ?_
      refine J_astore_nN (lv' := [(0, .ref (ka S 3 0)), (1, .int s), (2, .int 1), (3, .null)]) (by decide) rfl dX0_holderOf_17 ?_
      refine J_aload_nN 3 rfl dX0_holderOf_18 ?_
      refine J_ifnullN 34 (by decide) dX0_holderOf_19 ?_
      refine J_iinc (v := 2) (lv' := [(0, .ref (ka S 3 0)), (1, .int s), (2, .int 2), (3, .null)]) 2 rfl (by decide) (by decide) rfl dX0_holderOf_34 ?_
      refine J_goto 2 (by decide) dX0_holderOf_37 ?_
      refine J_iload_n 2 rfl dX0_holderOf_2 ?_
      refine J_aload_n 0 rfl dX0_holderOf_3 ?_
      refine gf_0_11 (n3 _) dX0_holderOf_4 ?_
      refine J_alen (v := 3) 5 (n14 _) rfl rfl rfl dX0_holderOf_7 ?_
      refine J_icmp_ge 40 (by decide) dX0_holderOf_8 (fun c9 => ?_) (fun c9 => ?_)
      · exact absurd c9 (by decide)
      refine J_aload_n 0 rfl dX0_holderOf_11 ?_
      refine gf_0_11 (n3 _) dX0_holderOf_12 ?_
      refine J_iload_n 2 rfl dX0_holderOf_15 ?_
      refine J_aald 2 5 (n14 _) rfl rfl (vp_in_iff.mpr (by decide)) (by decide) dX0_holderOf_16 ?_
      rcases opt_split (R 14 0 2) with o10 | ⟨a11, o10⟩
      · skip
        refine J_topv (v' := .null) (by first | rfl | (rw [o10]; rfl)) ?_
        refine J_astore_nN (lv' := [(0, .ref (ka S 3 0)), (1, .int s), (2, .int 2), (3, .null)]) (by decide) rfl dX0_holderOf_17 ?_
        refine J_aload_nN 3 rfl dX0_holderOf_18 ?_
        refine J_ifnullN 34 (by decide) dX0_holderOf_19 ?_
        refine J_iinc (v := 3) (lv' := [(0, .ref (ka S 3 0)), (1, .int s), (2, .int 3), (3, .null)]) 2 rfl (by decide) (by decide) rfl dX0_holderOf_34 ?_
        refine J_goto 2 (by decide) dX0_holderOf_37 ?_
        refine J_iload_n 2 rfl dX0_holderOf_2 ?_
        refine J_aload_n 0 rfl dX0_holderOf_3 ?_
        refine gf_0_11 (n3 _) dX0_holderOf_4 ?_
        refine J_alen (v := 3) 5 (n14 _) rfl rfl rfl dX0_holderOf_7 ?_
        refine J_icmp_ge 40 (by decide) dX0_holderOf_8 (fun c13 => ?_) (fun c13 => ?_)
        rotate_left
        · exact absurd (by decide) c13
        refine J_null dX0_holderOf_40 ?_
        exact J_areturn rfl (by first | exact Or.inl ⟨_, rfl⟩ | exact Or.inr ⟨_, rfl⟩) (by first | exact Or.inl rfl | exact Or.inr ⟨_, rfl⟩ | exact va_rf_or _) dX0_holderOf_41 (⟨by (try simp only [kb_0, kb_1, kb_n0, kb_n1, decide_eq_false_iff_not, decide_eq_true_eq, ne_eq, Classical.not_not] at *); first | (simp [kb, kb_0, kb_1, vr_n, vr_s, holdF, shF_none, shF_some, *]; done) | (simp [kb, kb_0, kb_1, vr_n, vr_s, holdF, shF_none, shF_some, *] <;> grind), rfl⟩) (by omega) (by omega)
      · skip
        have ma11 : a11 ∈ LP := hsp _ _ (by decide) o10
        refine J_topv (v' := .ref a11) (by first | rfl | (rw [o10]; rfl)) ?_
        refine J_astore_n (lv' := [(0, .ref (ka S 3 0)), (1, .int s), (2, .int 2), (3, .ref a11)]) (by decide) rfl dX0_holderOf_17 ?_
        refine J_aload_n 3 rfl dX0_holderOf_18 ?_
        refine J_ifnull dX0_holderOf_19 ?_
        refine J_aload_n 3 rfl dX0_holderOf_22 ?_
        refine J_iconst (v := 1) (by decide) dX0_holderOf_23 ?_
        refine J_iload_n 1 rfl dX0_holderOf_24 ?_
        refine J_ishl dX0_holderOf_25 ?_
        refine cv_0_21 (cells' := 0) (slots' := 0) dX0_holderOf_26 (c_X5_sharesStationWith (by assumption)) (n20 (by assumption)) ⟨by decide, by decide⟩ rfl rfl (by decide) (by decide) (Nat.le_of_ble_eq_true rfl) (fun _ _ r14 => ?_) (fun _ _ h => h.elim)
        obtain ⟨rfl, rfl⟩ := r14
        refine J_eq (st' := [.int (kb (shrF I a11 (1 <<< (s &&& 31))))]) rfl rfl rfl ?_
        refine J_if_eq 34 (by decide) dX0_holderOf_29 (fun c15 => ?_) (fun c15 => ?_)
        · skip
          refine J_iinc (v := 3) (lv' := [(0, .ref (ka S 3 0)), (1, .int s), (2, .int 3), (3, .ref a11)]) 2 rfl (by decide) (by decide) rfl dX0_holderOf_34 ?_
          refine J_goto 2 (by decide) dX0_holderOf_37 ?_
          refine J_iload_n 2 rfl dX0_holderOf_2 ?_
          refine J_aload_n 0 rfl dX0_holderOf_3 ?_
          refine gf_0_11 (n3 _) dX0_holderOf_4 ?_
          refine J_alen (v := 3) 5 (n14 _) rfl rfl rfl dX0_holderOf_7 ?_
          refine J_icmp_ge 40 (by decide) dX0_holderOf_8 (fun c17 => ?_) (fun c17 => ?_)
          rotate_left
          · exact absurd (by decide) c17
          refine J_null dX0_holderOf_40 ?_
          exact J_areturn rfl (by first | exact Or.inl ⟨_, rfl⟩ | exact Or.inr ⟨_, rfl⟩) (by first | exact Or.inl rfl | exact Or.inr ⟨_, rfl⟩ | exact va_rf_or _) dX0_holderOf_41 (⟨by (try simp only [kb_0, kb_1, kb_n0, kb_n1, decide_eq_false_iff_not, decide_eq_true_eq, ne_eq, Classical.not_not] at *); first | (simp [kb, kb_0, kb_1, vr_n, vr_s, holdF, shF_none, shF_some, *]; done) | (simp [kb, kb_0, kb_1, vr_n, vr_s, holdF, shF_none, shF_some, *] <;> grind), rfl⟩) (by omega) (by omega)
        · skip
          refine J_aload_n 3 rfl dX0_holderOf_32 ?_
          exact J_areturn rfl (by first | exact Or.inl ⟨_, rfl⟩ | exact Or.inr ⟨_, rfl⟩) (by first | exact Or.inl rfl | exact Or.inr ⟨_, rfl⟩ | exact va_rf_or _) dX0_holderOf_33 (⟨by (try simp only [kb_0, kb_1, kb_n0, kb_n1, decide_eq_false_iff_not, decide_eq_true_eq, ne_eq, Classical.not_not] at *); first | (simp [kb, kb_0, kb_1, vr_n, vr_s, holdF, shF_none, shF_some, *]; done) | (simp [kb, kb_0, kb_1, vr_n, vr_s, holdF, shF_none, shF_some, *] <;> grind), rfl⟩) (by omega) (by omega)
    · skip
      have ma7 : a7 ∈ LP := hsp _ _ (by decide) o6
      refine J_topv (v' := .ref a7) (by first | rfl | (rw [o6]; rfl)) ?_
      refine J_astore_n (lv' := [(0, .ref (ka S 3 0)), (1, .int s), (2, .int 1), (3, .ref a7)]) (by decide) rfl dX0_holderOf_17 ?_
      refine J_aload_n 3 rfl dX0_holderOf_18 ?_
      refine J_ifnull dX0_holderOf_19 ?_
      refine J_aload_n 3 rfl dX0_holderOf_22 ?_
      refine J_iconst (v := 1) (by decide) dX0_holderOf_23 ?_
      refine J_iload_n 1 rfl dX0_holderOf_24 ?_
      refine J_ishl dX0_holderOf_25 ?_
      refine cv_0_21 (cells' := 0) (slots' := 0) dX0_holderOf_26 (c_X5_sharesStationWith (by assumption)) (n20 (by assumption)) ⟨by decide, by decide⟩ rfl rfl (by decide) (by decide) (Nat.le_of_ble_eq_true rfl) (fun _ _ r18 => ?_) (fun _ _ h => h.elim)
      obtain ⟨rfl, rfl⟩ := r18
      refine J_eq (st' := [.int (kb (shrF I a7 (1 <<< (s &&& 31))))]) rfl rfl rfl ?_
      refine J_if_eq 34 (by decide) dX0_holderOf_29 (fun c19 => ?_) (fun c19 => ?_)
      · skip
        refine J_iinc (v := 2) (lv' := [(0, .ref (ka S 3 0)), (1, .int s), (2, .int 2), (3, .ref a7)]) 2 rfl (by decide) (by decide) rfl dX0_holderOf_34 ?_
        refine J_goto 2 (by decide) dX0_holderOf_37 ?_
        refine J_iload_n 2 rfl dX0_holderOf_2 ?_
        refine J_aload_n 0 rfl dX0_holderOf_3 ?_
        refine gf_0_11 (n3 _) dX0_holderOf_4 ?_
        refine J_alen (v := 3) 5 (n14 _) rfl rfl rfl dX0_holderOf_7 ?_
        refine J_icmp_ge 40 (by decide) dX0_holderOf_8 (fun c21 => ?_) (fun c21 => ?_)
        · exact absurd c21 (by decide)
        refine J_aload_n 0 rfl dX0_holderOf_11 ?_
        refine gf_0_11 (n3 _) dX0_holderOf_12 ?_
        refine J_iload_n 2 rfl dX0_holderOf_15 ?_
        refine J_aald 2 5 (n14 _) rfl rfl (vp_in_iff.mpr (by decide)) (by decide) dX0_holderOf_16 ?_
        rcases opt_split (R 14 0 2) with o22 | ⟨a23, o22⟩
        · skip
          refine J_topv (v' := .null) (by first | rfl | (rw [o22]; rfl)) ?_
          refine J_astore_nN (lv' := [(0, .ref (ka S 3 0)), (1, .int s), (2, .int 2), (3, .null)]) (by decide) rfl dX0_holderOf_17 ?_
          refine J_aload_nN 3 rfl dX0_holderOf_18 ?_
          refine J_ifnullN 34 (by decide) dX0_holderOf_19 ?_
          refine J_iinc (v := 3) (lv' := [(0, .ref (ka S 3 0)), (1, .int s), (2, .int 3), (3, .null)]) 2 rfl (by decide) (by decide) rfl dX0_holderOf_34 ?_
          refine J_goto 2 (by decide) dX0_holderOf_37 ?_
          refine J_iload_n 2 rfl dX0_holderOf_2 ?_
          refine J_aload_n 0 rfl dX0_holderOf_3 ?_
          refine gf_0_11 (n3 _) dX0_holderOf_4 ?_
          refine J_alen (v := 3) 5 (n14 _) rfl rfl rfl dX0_holderOf_7 ?_
          refine J_icmp_ge 40 (by decide) dX0_holderOf_8 (fun c25 => ?_) (fun c25 => ?_)
          rotate_left
          · exact absurd (by decide) c25
          refine J_null dX0_holderOf_40 ?_
          exact J_areturn rfl (by first | exact Or.inl ⟨_, rfl⟩ | exact Or.inr ⟨_, rfl⟩) (by first | exact Or.inl rfl | exact Or.inr ⟨_, rfl⟩ | exact va_rf_or _) dX0_holderOf_41 (⟨by (try simp only [kb_0, kb_1, kb_n0, kb_n1, decide_eq_false_iff_not, decide_eq_true_eq, ne_eq, Classical.not_not] at *); first | (simp [kb, kb_0, kb_1, vr_n, vr_s, holdF, shF_none, shF_some, *]; done) | (simp [kb, kb_0, kb_1, vr_n, vr_s, holdF, shF_none, shF_some, *] <;> grind), rfl⟩) (by omega) (by omega)
        · skip
          have ma23 : a23 ∈ LP := hsp _ _ (by decide) o22
          refine J_topv (v' := .ref a23) (by first | rfl | (rw [o22]; rfl)) ?_
          refine J_astore_n (lv' := [(0, .ref (ka S 3 0)), (1, .int s), (2, .int 2), (3, .ref a23)]) (by decide) rfl dX0_holderOf_17 ?_
          refine J_aload_n 3 rfl dX0_holderOf_18 ?_
          refine J_ifnull dX0_holderOf_19 ?_
          refine J_aload_n 3 rfl dX0_holderOf_22 ?_
          refine J_iconst (v := 1) (by decide) dX0_holderOf_23 ?_
          refine J_iload_n 1 rfl dX0_holderOf_24 ?_
          refine J_ishl dX0_holderOf_25 ?_
          refine cv_0_21 (cells' := 0) (slots' := 0) dX0_holderOf_26 (c_X5_sharesStationWith (by assumption)) (n20 (by assumption)) ⟨by decide, by decide⟩ rfl rfl (by decide) (by decide) (Nat.le_of_ble_eq_true rfl) (fun _ _ r26 => ?_) (fun _ _ h => h.elim)
          obtain ⟨rfl, rfl⟩ := r26
          refine J_eq (st' := [.int (kb (shrF I a23 (1 <<< (s &&& 31))))]) rfl rfl rfl ?_
          refine J_if_eq 34 (by decide) dX0_holderOf_29 (fun c27 => ?_) (fun c27 => ?_)
          · skip
            refine J_iinc (v := 3) (lv' := [(0, .ref (ka S 3 0)), (1, .int s), (2, .int 3), (3, .ref a23)]) 2 rfl (by decide) (by decide) rfl dX0_holderOf_34 ?_
            refine J_goto 2 (by decide) dX0_holderOf_37 ?_
            refine J_iload_n 2 rfl dX0_holderOf_2 ?_
            refine J_aload_n 0 rfl dX0_holderOf_3 ?_
            refine gf_0_11 (n3 _) dX0_holderOf_4 ?_
            refine J_alen (v := 3) 5 (n14 _) rfl rfl rfl dX0_holderOf_7 ?_
            refine J_icmp_ge 40 (by decide) dX0_holderOf_8 (fun c29 => ?_) (fun c29 => ?_)
            rotate_left
            · exact absurd (by decide) c29
            refine J_null dX0_holderOf_40 ?_
            exact J_areturn rfl (by first | exact Or.inl ⟨_, rfl⟩ | exact Or.inr ⟨_, rfl⟩) (by first | exact Or.inl rfl | exact Or.inr ⟨_, rfl⟩ | exact va_rf_or _) dX0_holderOf_41 (⟨by (try simp only [kb_0, kb_1, kb_n0, kb_n1, decide_eq_false_iff_not, decide_eq_true_eq, ne_eq, Classical.not_not] at *); first | (simp [kb, kb_0, kb_1, vr_n, vr_s, holdF, shF_none, shF_some, *]; done) | (simp [kb, kb_0, kb_1, vr_n, vr_s, holdF, shF_none, shF_some, *] <;> grind), rfl⟩) (by omega) (by omega)
          · skip
            refine J_aload_n 3 rfl dX0_holderOf_32 ?_
            exact J_areturn rfl (by first | exact Or.inl ⟨_, rfl⟩ | exact Or.inr ⟨_, rfl⟩) (by first | exact Or.inl rfl | exact Or.inr ⟨_, rfl⟩ | exact va_rf_or _) dX0_holderOf_33 (⟨by (try simp only [kb_0, kb_1, kb_n0, kb_n1, decide_eq_false_iff_not, decide_eq_true_eq, ne_eq, Classical.not_not] at *); first | (simp [kb, kb_0, kb_1, vr_n, vr_s, holdF, shF_none, shF_some, *]; done) | (simp [kb, kb_0, kb_1, vr_n, vr_s, holdF, shF_none, shF_some, *] <;> grind), rfl⟩) (by omega) (by omega)
      · skip
        refine J_aload_n 3 rfl dX0_holderOf_32 ?_
        exact J_areturn rfl (by first | exact Or.inl ⟨_, rfl⟩ | exact Or.inr ⟨_, rfl⟩) (by first | exact Or.inl rfl | exact Or.inr ⟨_, rfl⟩ | exact va_rf_or _) dX0_holderOf_33 (⟨by (try simp only [kb_0, kb_1, kb_n0, kb_n1, decide_eq_false_iff_not, decide_eq_true_eq, ne_eq, Classical.not_not] at *); first | (simp [kb, kb_0, kb_1, vr_n, vr_s, holdF, shF_none, shF_some, *]; done) | (simp [kb, kb_0, kb_1, vr_n, vr_s, holdF, shF_none, shF_some, *] <;> grind), rfl⟩) (by omega) (by omega)
  · skip
    have ma3 : a3 ∈ LP := hsp _ _ (by decide) o2
    refine J_topv (v' := .ref a3) (by first | rfl | (rw [o2]; rfl)) ?_
    refine J_astore_n (lv' := [(0, .ref (ka S 3 0)), (1, .int s), (2, .int 0), (3, .ref a3)]) (by decide) rfl dX0_holderOf_17 ?_
    refine J_aload_n 3 rfl dX0_holderOf_18 ?_
    refine J_ifnull dX0_holderOf_19 ?_
    refine J_aload_n 3 rfl dX0_holderOf_22 ?_
    refine J_iconst (v := 1) (by decide) dX0_holderOf_23 ?_
    refine J_iload_n 1 rfl dX0_holderOf_24 ?_
    refine J_ishl dX0_holderOf_25 ?_
    refine cv_0_21 (cells' := 0) (slots' := 0) dX0_holderOf_26 (c_X5_sharesStationWith (by assumption)) (n20 (by assumption)) ⟨by decide, by decide⟩ rfl rfl (by decide) (by decide) (Nat.le_of_ble_eq_true rfl) (fun _ _ r30 => ?_) (fun _ _ h => h.elim)
    obtain ⟨rfl, rfl⟩ := r30
    refine J_eq (st' := [.int (kb (shrF I a3 (1 <<< (s &&& 31))))]) rfl rfl rfl ?_
    refine J_if_eq 34 (by decide) dX0_holderOf_29 (fun c31 => ?_) (fun c31 => ?_)
    · skip
      refine J_iinc (v := 1) (lv' := [(0, .ref (ka S 3 0)), (1, .int s), (2, .int 1), (3, .ref a3)]) 2 rfl (by decide) (by decide) rfl dX0_holderOf_34 ?_
      refine J_goto 2 (by decide) dX0_holderOf_37 ?_
      refine J_iload_n 2 rfl dX0_holderOf_2 ?_
      refine J_aload_n 0 rfl dX0_holderOf_3 ?_
      refine gf_0_11 (n3 _) dX0_holderOf_4 ?_
      refine J_alen (v := 3) 5 (n14 _) rfl rfl rfl dX0_holderOf_7 ?_
      refine J_icmp_ge 40 (by decide) dX0_holderOf_8 (fun c33 => ?_) (fun c33 => ?_)
      · exact absurd c33 (by decide)
      refine J_aload_n 0 rfl dX0_holderOf_11 ?_
      refine gf_0_11 (n3 _) dX0_holderOf_12 ?_
      refine J_iload_n 2 rfl dX0_holderOf_15 ?_
      refine J_aald 1 5 (n14 _) rfl rfl (vp_in_iff.mpr (by decide)) (by decide) dX0_holderOf_16 ?_
      rcases opt_split (R 14 0 1) with o34 | ⟨a35, o34⟩
      · skip
        refine J_topv (v' := .null) (by first | rfl | (rw [o34]; rfl)) ?_
        refine J_astore_nN (lv' := [(0, .ref (ka S 3 0)), (1, .int s), (2, .int 1), (3, .null)]) (by decide) rfl dX0_holderOf_17 ?_
        refine J_aload_nN 3 rfl dX0_holderOf_18 ?_
        refine J_ifnullN 34 (by decide) dX0_holderOf_19 ?_
        refine J_iinc (v := 2) (lv' := [(0, .ref (ka S 3 0)), (1, .int s), (2, .int 2), (3, .null)]) 2 rfl (by decide) (by decide) rfl dX0_holderOf_34 ?_
        refine J_goto 2 (by decide) dX0_holderOf_37 ?_
        refine J_iload_n 2 rfl dX0_holderOf_2 ?_
        refine J_aload_n 0 rfl dX0_holderOf_3 ?_
        refine gf_0_11 (n3 _) dX0_holderOf_4 ?_
        refine J_alen (v := 3) 5 (n14 _) rfl rfl rfl dX0_holderOf_7 ?_
        refine J_icmp_ge 40 (by decide) dX0_holderOf_8 (fun c37 => ?_) (fun c37 => ?_)
        · exact absurd c37 (by decide)
        refine J_aload_n 0 rfl dX0_holderOf_11 ?_
        refine gf_0_11 (n3 _) dX0_holderOf_12 ?_
        refine J_iload_n 2 rfl dX0_holderOf_15 ?_
        refine J_aald 2 5 (n14 _) rfl rfl (vp_in_iff.mpr (by decide)) (by decide) dX0_holderOf_16 ?_
        rcases opt_split (R 14 0 2) with o38 | ⟨a39, o38⟩
        · skip
          refine J_topv (v' := .null) (by first | rfl | (rw [o38]; rfl)) ?_
          refine J_astore_nN (lv' := [(0, .ref (ka S 3 0)), (1, .int s), (2, .int 2), (3, .null)]) (by decide) rfl dX0_holderOf_17 ?_
          refine J_aload_nN 3 rfl dX0_holderOf_18 ?_
          refine J_ifnullN 34 (by decide) dX0_holderOf_19 ?_
          refine J_iinc (v := 3) (lv' := [(0, .ref (ka S 3 0)), (1, .int s), (2, .int 3), (3, .null)]) 2 rfl (by decide) (by decide) rfl dX0_holderOf_34 ?_
          refine J_goto 2 (by decide) dX0_holderOf_37 ?_
          refine J_iload_n 2 rfl dX0_holderOf_2 ?_
          refine J_aload_n 0 rfl dX0_holderOf_3 ?_
          refine gf_0_11 (n3 _) dX0_holderOf_4 ?_
          refine J_alen (v := 3) 5 (n14 _) rfl rfl rfl dX0_holderOf_7 ?_
          refine J_icmp_ge 40 (by decide) dX0_holderOf_8 (fun c41 => ?_) (fun c41 => ?_)
          rotate_left
          · exact absurd (by decide) c41
          refine J_null dX0_holderOf_40 ?_
          exact J_areturn rfl (by first | exact Or.inl ⟨_, rfl⟩ | exact Or.inr ⟨_, rfl⟩) (by first | exact Or.inl rfl | exact Or.inr ⟨_, rfl⟩ | exact va_rf_or _) dX0_holderOf_41 (⟨by (try simp only [kb_0, kb_1, kb_n0, kb_n1, decide_eq_false_iff_not, decide_eq_true_eq, ne_eq, Classical.not_not] at *); first | (simp [kb, kb_0, kb_1, vr_n, vr_s, holdF, shF_none, shF_some, *]; done) | (simp [kb, kb_0, kb_1, vr_n, vr_s, holdF, shF_none, shF_some, *] <;> grind), rfl⟩) (by omega) (by omega)
        · skip
          have ma39 : a39 ∈ LP := hsp _ _ (by decide) o38
          refine J_topv (v' := .ref a39) (by first | rfl | (rw [o38]; rfl)) ?_
          refine J_astore_n (lv' := [(0, .ref (ka S 3 0)), (1, .int s), (2, .int 2), (3, .ref a39)]) (by decide) rfl dX0_holderOf_17 ?_
          refine J_aload_n 3 rfl dX0_holderOf_18 ?_
          refine J_ifnull dX0_holderOf_19 ?_
          refine J_aload_n 3 rfl dX0_holderOf_22 ?_
          refine J_iconst (v := 1) (by decide) dX0_holderOf_23 ?_
          refine J_iload_n 1 rfl dX0_holderOf_24 ?_
          refine J_ishl dX0_holderOf_25 ?_
          refine cv_0_21 (cells' := 0) (slots' := 0) dX0_holderOf_26 (c_X5_sharesStationWith (by assumption)) (n20 (by assumption)) ⟨by decide, by decide⟩ rfl rfl (by decide) (by decide) (Nat.le_of_ble_eq_true rfl) (fun _ _ r42 => ?_) (fun _ _ h => h.elim)
          obtain ⟨rfl, rfl⟩ := r42
          refine J_eq (st' := [.int (kb (shrF I a39 (1 <<< (s &&& 31))))]) rfl rfl rfl ?_
          refine J_if_eq 34 (by decide) dX0_holderOf_29 (fun c43 => ?_) (fun c43 => ?_)
          · skip
            refine J_iinc (v := 3) (lv' := [(0, .ref (ka S 3 0)), (1, .int s), (2, .int 3), (3, .ref a39)]) 2 rfl (by decide) (by decide) rfl dX0_holderOf_34 ?_
            refine J_goto 2 (by decide) dX0_holderOf_37 ?_
            refine J_iload_n 2 rfl dX0_holderOf_2 ?_
            refine J_aload_n 0 rfl dX0_holderOf_3 ?_
            refine gf_0_11 (n3 _) dX0_holderOf_4 ?_
            refine J_alen (v := 3) 5 (n14 _) rfl rfl rfl dX0_holderOf_7 ?_
            refine J_icmp_ge 40 (by decide) dX0_holderOf_8 (fun c45 => ?_) (fun c45 => ?_)
            rotate_left
            · exact absurd (by decide) c45
            refine J_null dX0_holderOf_40 ?_
            exact J_areturn rfl (by first | exact Or.inl ⟨_, rfl⟩ | exact Or.inr ⟨_, rfl⟩) (by first | exact Or.inl rfl | exact Or.inr ⟨_, rfl⟩ | exact va_rf_or _) dX0_holderOf_41 (⟨by (try simp only [kb_0, kb_1, kb_n0, kb_n1, decide_eq_false_iff_not, decide_eq_true_eq, ne_eq, Classical.not_not] at *); first | (simp [kb, kb_0, kb_1, vr_n, vr_s, holdF, shF_none, shF_some, *]; done) | (simp [kb, kb_0, kb_1, vr_n, vr_s, holdF, shF_none, shF_some, *] <;> grind), rfl⟩) (by omega) (by omega)
          · skip
            refine J_aload_n 3 rfl dX0_holderOf_32 ?_
            exact J_areturn rfl (by first | exact Or.inl ⟨_, rfl⟩ | exact Or.inr ⟨_, rfl⟩) (by first | exact Or.inl rfl | exact Or.inr ⟨_, rfl⟩ | exact va_rf_or _) dX0_holderOf_33 (⟨by (try simp only [kb_0, kb_1, kb_n0, kb_n1, decide_eq_false_iff_not, decide_eq_true_eq, ne_eq, Classical.not_not] at *); first | (simp [kb, kb_0, kb_1, vr_n, vr_s, holdF, shF_none, shF_some, *]; done) | (simp [kb, kb_0, kb_1, vr_n, vr_s, holdF, shF_none, shF_some, *] <;> grind), rfl⟩) (by omega) (by omega)
      · skip
        have ma35 : a35 ∈ LP := hsp _ _ (by decide) o34
        refine J_topv (v' := .ref a35) (by first | rfl | (rw [o34]; rfl)) ?_
        refine J_astore_n (lv' := [(0, .ref (ka S 3 0)), (1, .int s), (2, .int 1), (3, .ref a35)]) (by decide) rfl dX0_holderOf_17 ?_
        refine J_aload_n 3 rfl dX0_holderOf_18 ?_
        refine J_ifnull dX0_holderOf_19 ?_
        refine J_aload_n 3 rfl dX0_holderOf_22 ?_
        refine J_iconst (v := 1) (by decide) dX0_holderOf_23 ?_
        refine J_iload_n 1 rfl dX0_holderOf_24 ?_
        refine J_ishl dX0_holderOf_25 ?_
        refine cv_0_21 (cells' := 0) (slots' := 0) dX0_holderOf_26 (c_X5_sharesStationWith (by assumption)) (n20 (by assumption)) ⟨by decide, by decide⟩ rfl rfl (by decide) (by decide) (Nat.le_of_ble_eq_true rfl) (fun _ _ r46 => ?_) (fun _ _ h => h.elim)
        obtain ⟨rfl, rfl⟩ := r46
        refine J_eq (st' := [.int (kb (shrF I a35 (1 <<< (s &&& 31))))]) rfl rfl rfl ?_
        refine J_if_eq 34 (by decide) dX0_holderOf_29 (fun c47 => ?_) (fun c47 => ?_)
        · skip
          refine J_iinc (v := 2) (lv' := [(0, .ref (ka S 3 0)), (1, .int s), (2, .int 2), (3, .ref a35)]) 2 rfl (by decide) (by decide) rfl dX0_holderOf_34 ?_
          refine J_goto 2 (by decide) dX0_holderOf_37 ?_
          refine J_iload_n 2 rfl dX0_holderOf_2 ?_
          refine J_aload_n 0 rfl dX0_holderOf_3 ?_
          refine gf_0_11 (n3 _) dX0_holderOf_4 ?_
          refine J_alen (v := 3) 5 (n14 _) rfl rfl rfl dX0_holderOf_7 ?_
          refine J_icmp_ge 40 (by decide) dX0_holderOf_8 (fun c49 => ?_) (fun c49 => ?_)
          · exact absurd c49 (by decide)
          refine J_aload_n 0 rfl dX0_holderOf_11 ?_
          refine gf_0_11 (n3 _) dX0_holderOf_12 ?_
          refine J_iload_n 2 rfl dX0_holderOf_15 ?_
          refine J_aald 2 5 (n14 _) rfl rfl (vp_in_iff.mpr (by decide)) (by decide) dX0_holderOf_16 ?_
          rcases opt_split (R 14 0 2) with o50 | ⟨a51, o50⟩
          · skip
            refine J_topv (v' := .null) (by first | rfl | (rw [o50]; rfl)) ?_
            refine J_astore_nN (lv' := [(0, .ref (ka S 3 0)), (1, .int s), (2, .int 2), (3, .null)]) (by decide) rfl dX0_holderOf_17 ?_
            refine J_aload_nN 3 rfl dX0_holderOf_18 ?_
            refine J_ifnullN 34 (by decide) dX0_holderOf_19 ?_
            refine J_iinc (v := 3) (lv' := [(0, .ref (ka S 3 0)), (1, .int s), (2, .int 3), (3, .null)]) 2 rfl (by decide) (by decide) rfl dX0_holderOf_34 ?_
            refine J_goto 2 (by decide) dX0_holderOf_37 ?_
            refine J_iload_n 2 rfl dX0_holderOf_2 ?_
            refine J_aload_n 0 rfl dX0_holderOf_3 ?_
            refine gf_0_11 (n3 _) dX0_holderOf_4 ?_
            refine J_alen (v := 3) 5 (n14 _) rfl rfl rfl dX0_holderOf_7 ?_
            refine J_icmp_ge 40 (by decide) dX0_holderOf_8 (fun c53 => ?_) (fun c53 => ?_)
            rotate_left
            · exact absurd (by decide) c53
            refine J_null dX0_holderOf_40 ?_
            exact J_areturn rfl (by first | exact Or.inl ⟨_, rfl⟩ | exact Or.inr ⟨_, rfl⟩) (by first | exact Or.inl rfl | exact Or.inr ⟨_, rfl⟩ | exact va_rf_or _) dX0_holderOf_41 (⟨by (try simp only [kb_0, kb_1, kb_n0, kb_n1, decide_eq_false_iff_not, decide_eq_true_eq, ne_eq, Classical.not_not] at *); first | (simp [kb, kb_0, kb_1, vr_n, vr_s, holdF, shF_none, shF_some, *]; done) | (simp [kb, kb_0, kb_1, vr_n, vr_s, holdF, shF_none, shF_some, *] <;> grind), rfl⟩) (by omega) (by omega)
          · skip
            have ma51 : a51 ∈ LP := hsp _ _ (by decide) o50
            refine J_topv (v' := .ref a51) (by first | rfl | (rw [o50]; rfl)) ?_
            refine J_astore_n (lv' := [(0, .ref (ka S 3 0)), (1, .int s), (2, .int 2), (3, .ref a51)]) (by decide) rfl dX0_holderOf_17 ?_
            refine J_aload_n 3 rfl dX0_holderOf_18 ?_
            refine J_ifnull dX0_holderOf_19 ?_
            refine J_aload_n 3 rfl dX0_holderOf_22 ?_
            refine J_iconst (v := 1) (by decide) dX0_holderOf_23 ?_
            refine J_iload_n 1 rfl dX0_holderOf_24 ?_
            refine J_ishl dX0_holderOf_25 ?_
            refine cv_0_21 (cells' := 0) (slots' := 0) dX0_holderOf_26 (c_X5_sharesStationWith (by assumption)) (n20 (by assumption)) ⟨by decide, by decide⟩ rfl rfl (by decide) (by decide) (Nat.le_of_ble_eq_true rfl) (fun _ _ r54 => ?_) (fun _ _ h => h.elim)
            obtain ⟨rfl, rfl⟩ := r54
            refine J_eq (st' := [.int (kb (shrF I a51 (1 <<< (s &&& 31))))]) rfl rfl rfl ?_
            refine J_if_eq 34 (by decide) dX0_holderOf_29 (fun c55 => ?_) (fun c55 => ?_)
            · skip
              refine J_iinc (v := 3) (lv' := [(0, .ref (ka S 3 0)), (1, .int s), (2, .int 3), (3, .ref a51)]) 2 rfl (by decide) (by decide) rfl dX0_holderOf_34 ?_
              refine J_goto 2 (by decide) dX0_holderOf_37 ?_
              refine J_iload_n 2 rfl dX0_holderOf_2 ?_
              refine J_aload_n 0 rfl dX0_holderOf_3 ?_
              refine gf_0_11 (n3 _) dX0_holderOf_4 ?_
              refine J_alen (v := 3) 5 (n14 _) rfl rfl rfl dX0_holderOf_7 ?_
              refine J_icmp_ge 40 (by decide) dX0_holderOf_8 (fun c57 => ?_) (fun c57 => ?_)
              rotate_left
              · exact absurd (by decide) c57
              refine J_null dX0_holderOf_40 ?_
              exact J_areturn rfl (by first | exact Or.inl ⟨_, rfl⟩ | exact Or.inr ⟨_, rfl⟩) (by first | exact Or.inl rfl | exact Or.inr ⟨_, rfl⟩ | exact va_rf_or _) dX0_holderOf_41 (⟨by (try simp only [kb_0, kb_1, kb_n0, kb_n1, decide_eq_false_iff_not, decide_eq_true_eq, ne_eq, Classical.not_not] at *); first | (simp [kb, kb_0, kb_1, vr_n, vr_s, holdF, shF_none, shF_some, *]; done) | (simp [kb, kb_0, kb_1, vr_n, vr_s, holdF, shF_none, shF_some, *] <;> grind), rfl⟩) (by omega) (by omega)
            · skip
              refine J_aload_n 3 rfl dX0_holderOf_32 ?_
              exact J_areturn rfl (by first | exact Or.inl ⟨_, rfl⟩ | exact Or.inr ⟨_, rfl⟩) (by first | exact Or.inl rfl | exact Or.inr ⟨_, rfl⟩ | exact va_rf_or _) dX0_holderOf_33 (⟨by (try simp only [kb_0, kb_1, kb_n0, kb_n1, decide_eq_false_iff_not, decide_eq_true_eq, ne_eq, Classical.not_not] at *); first | (simp [kb, kb_0, kb_1, vr_n, vr_s, holdF, shF_none, shF_some, *]; done) | (simp [kb, kb_0, kb_1, vr_n, vr_s, holdF, shF_none, shF_some, *] <;> grind), rfl⟩) (by omega) (by omega)
        · skip
          refine J_aload_n 3 rfl dX0_holderOf_32 ?_
          exact J_areturn rfl (by first | exact Or.inl ⟨_, rfl⟩ | exact Or.inr ⟨_, rfl⟩) (by first | exact Or.inl rfl | exact Or.inr ⟨_, rfl⟩ | exact va_rf_or _) dX0_holderOf_33 (⟨by (try simp only [kb_0, kb_1, kb_n0, kb_n1, decide_eq_false_iff_not, decide_eq_true_eq, ne_eq, Classical.not_not] at *); first | (simp [kb, kb_0, kb_1, vr_n, vr_s, holdF, shF_none, shF_some, *]; done) | (simp [kb, kb_0, kb_1, vr_n, vr_s, holdF, shF_none, shF_some, *] <;> grind), rfl⟩) (by omega) (by omega)
    · skip
      refine J_aload_n 3 rfl dX0_holderOf_32 ?_
      exact J_areturn rfl (by first | exact Or.inl ⟨_, rfl⟩ | exact Or.inr ⟨_, rfl⟩) (by first | exact Or.inl rfl | exact Or.inr ⟨_, rfl⟩ | exact va_rf_or _) dX0_holderOf_33 (⟨by (try simp only [kb_0, kb_1, kb_n0, kb_n1, decide_eq_false_iff_not, decide_eq_true_eq, ne_eq, Classical.not_not] at *); first | (simp [kb, kb_0, kb_1, vr_n, vr_s, holdF, shF_none, shF_some, *]; done) | (simp [kb, kb_0, kb_1, vr_n, vr_s, holdF, shF_none, shF_some, *] <;> grind), rfl⟩) (by omega) (by omega)

set_option maxRecDepth 20000 in
theorem c_X0_busyCount {cy : Nat → ClassId} {S : Nat → Nat → Nat} {I : kI} {L : kL} {R : kRf} {LP : List Nat}  (hsp : inLP R 14 3 LP)  : Con yX0_busyCount cX0_busyCount 3 (some .int) 0 0 0 cy [.ref (ka S 3 0)] (wc cy S I L R LP) (kRet (some (.int (busyF R))) (wc cy S I L R LP)) kF := by
  refine Con_of (by decide +kernel) (Nat.le_of_ble_eq_true rfl) ?_
  refine J_eq (lv' := [(0, .ref (ka S 3 0))]) rfl rfl rfl ?_
  refine J_iconst (v := 0) (by decide) dX0_busyCount_0 ?_
  refine J_istore_n (lv' := [(0, .ref (ka S 3 0)), (1, .int 0)]) (by decide) rfl dX0_busyCount_1 ?_
  refine J_iconst (v := 0) (by decide) dX0_busyCount_2 ?_
  refine J_istore_n (lv' := [(0, .ref (ka S 3 0)), (1, .int 0), (2, .int 0)]) (by decide) rfl dX0_busyCount_3 ?_
  refine J_iload_n 2 rfl dX0_busyCount_4 ?_
  refine J_aload_n 0 rfl dX0_busyCount_5 ?_
  refine gf_0_11 (n3 _) dX0_busyCount_6 ?_
  refine J_alen (v := 3) 5 (n14 _) rfl rfl rfl dX0_busyCount_9 ?_
  refine J_icmp_ge 31 (by decide) dX0_busyCount_10 (fun c1 => ?_) (fun c1 => ?_)
  · exact absurd c1 (by decide)
  refine J_aload_n 0 rfl dX0_busyCount_13 ?_
  refine gf_0_11 (n3 _) dX0_busyCount_14 ?_
  refine J_iload_n 2 rfl dX0_busyCount_17 ?_
  refine J_aald 0 5 (n14 _) rfl rfl (vp_in_iff.mpr (by decide)) (by decide) dX0_busyCount_18 ?_
  rcases opt_split (R 14 0 0) with o2 | ⟨a3, o2⟩
  · skip
    refine J_topv (v' := .null) (by first | rfl | (rw [o2]; rfl)) ?_
    refine J_ifnullN 25 (by decide) dX0_busyCount_19 ?_
    refine J_iinc (v := 1) (lv' := [(0, .ref (ka S 3 0)), (1, .int 0), (2, .int 1)]) 2 rfl (by decide) (by decide) rfl dX0_busyCount_25 ?_
    refine J_goto 4 (by decide) dX0_busyCount_28 ?_
    refine J_iload_n 2 rfl dX0_busyCount_4 ?_
    refine J_aload_n 0 rfl dX0_busyCount_5 ?_
    refine gf_0_11 (n3 _) dX0_busyCount_6 ?_
    refine J_alen (v := 3) 5 (n14 _) rfl rfl rfl dX0_busyCount_9 ?_
    refine J_icmp_ge 31 (by decide) dX0_busyCount_10 (fun c5 => ?_) (fun c5 => ?_)
    · exact absurd c5 (by decide)
    refine J_aload_n 0 rfl dX0_busyCount_13 ?_
    refine gf_0_11 (n3 _) dX0_busyCount_14 ?_
    refine J_iload_n 2 rfl dX0_busyCount_17 ?_
    refine J_aald 1 5 (n14 _) rfl rfl (vp_in_iff.mpr (by decide)) (by decide) dX0_busyCount_18 ?_
    rcases opt_split (R 14 0 1) with o6 | ⟨a7, o6⟩
    · skip
      refine J_topv (v' := .null) (by first | rfl | (rw [o6]; rfl)) ?_
      refine J_ifnullN 25 (by decide) dX0_busyCount_19 ?_
      refine J_iinc (v := 2) (lv' := [(0, .ref (ka S 3 0)), (1, .int 0), (2, .int 2)]) 2 rfl (by decide) (by decide) rfl dX0_busyCount_25 ?_
      refine J_goto 4 (by decide) dX0_busyCount_28 ?_
      refine J_iload_n 2 rfl dX0_busyCount_4 ?_
      refine J_aload_n 0 rfl dX0_busyCount_5 ?_
      refine gf_0_11 (n3 _) dX0_busyCount_6 ?_
      refine J_alen (v := 3) 5 (n14 _) rfl rfl rfl dX0_busyCount_9 ?_
      refine J_icmp_ge 31 (by decide) dX0_busyCount_10 (fun c9 => ?_) (fun c9 => ?_)
      · exact absurd c9 (by decide)
      refine J_aload_n 0 rfl dX0_busyCount_13 ?_
      refine gf_0_11 (n3 _) dX0_busyCount_14 ?_
      refine J_iload_n 2 rfl dX0_busyCount_17 ?_
      refine J_aald 2 5 (n14 _) rfl rfl (vp_in_iff.mpr (by decide)) (by decide) dX0_busyCount_18 ?_
      rcases opt_split (R 14 0 2) with o10 | ⟨a11, o10⟩
      · skip
        refine J_topv (v' := .null) (by first | rfl | (rw [o10]; rfl)) ?_
        refine J_ifnullN 25 (by decide) dX0_busyCount_19 ?_
        refine J_iinc (v := 3) (lv' := [(0, .ref (ka S 3 0)), (1, .int 0), (2, .int 3)]) 2 rfl (by decide) (by decide) rfl dX0_busyCount_25 ?_
        refine J_goto 4 (by decide) dX0_busyCount_28 ?_
        refine J_iload_n 2 rfl dX0_busyCount_4 ?_
        refine J_aload_n 0 rfl dX0_busyCount_5 ?_
        refine gf_0_11 (n3 _) dX0_busyCount_6 ?_
        refine J_alen (v := 3) 5 (n14 _) rfl rfl rfl dX0_busyCount_9 ?_
        refine J_icmp_ge 31 (by decide) dX0_busyCount_10 (fun c13 => ?_) (fun c13 => ?_)
        rotate_left
        · exact absurd (by decide) c13
        refine J_iload_n 1 rfl dX0_busyCount_31 ?_
        exact J_ireturn rfl (by first | rfl | assumption | simp [kb_nar]) dX0_busyCount_32 (⟨by simp [busyF, *], rfl⟩) (by omega) (by omega)
      · skip
        have ma11 : a11 ∈ LP := hsp _ _ (by decide) o10
        refine J_topv (v' := .ref a11) (by first | rfl | (rw [o10]; rfl)) ?_
        refine J_ifnull dX0_busyCount_19 ?_
        refine J_iinc (v := 1) (lv' := [(0, .ref (ka S 3 0)), (1, .int 1), (2, .int 2)]) 1 rfl (by decide) (by decide) rfl dX0_busyCount_22 ?_
        refine J_iinc (v := 3) (lv' := [(0, .ref (ka S 3 0)), (1, .int 1), (2, .int 3)]) 2 rfl (by decide) (by decide) rfl dX0_busyCount_25 ?_
        refine J_goto 4 (by decide) dX0_busyCount_28 ?_
        refine J_iload_n 2 rfl dX0_busyCount_4 ?_
        refine J_aload_n 0 rfl dX0_busyCount_5 ?_
        refine gf_0_11 (n3 _) dX0_busyCount_6 ?_
        refine J_alen (v := 3) 5 (n14 _) rfl rfl rfl dX0_busyCount_9 ?_
        refine J_icmp_ge 31 (by decide) dX0_busyCount_10 (fun c16 => ?_) (fun c16 => ?_)
        rotate_left
        · exact absurd (by decide) c16
        refine J_iload_n 1 rfl dX0_busyCount_31 ?_
        exact J_ireturn rfl (by first | rfl | assumption | simp [kb_nar]) dX0_busyCount_32 (⟨by simp [busyF, *], rfl⟩) (by omega) (by omega)
    · skip
      have ma7 : a7 ∈ LP := hsp _ _ (by decide) o6
      refine J_topv (v' := .ref a7) (by first | rfl | (rw [o6]; rfl)) ?_
      refine J_ifnull dX0_busyCount_19 ?_
      refine J_iinc (v := 1) (lv' := [(0, .ref (ka S 3 0)), (1, .int 1), (2, .int 1)]) 1 rfl (by decide) (by decide) rfl dX0_busyCount_22 ?_
      refine J_iinc (v := 2) (lv' := [(0, .ref (ka S 3 0)), (1, .int 1), (2, .int 2)]) 2 rfl (by decide) (by decide) rfl dX0_busyCount_25 ?_
      refine J_goto 4 (by decide) dX0_busyCount_28 ?_
      refine J_iload_n 2 rfl dX0_busyCount_4 ?_
      refine J_aload_n 0 rfl dX0_busyCount_5 ?_
      refine gf_0_11 (n3 _) dX0_busyCount_6 ?_
      refine J_alen (v := 3) 5 (n14 _) rfl rfl rfl dX0_busyCount_9 ?_
      refine J_icmp_ge 31 (by decide) dX0_busyCount_10 (fun c19 => ?_) (fun c19 => ?_)
      · exact absurd c19 (by decide)
      refine J_aload_n 0 rfl dX0_busyCount_13 ?_
      refine gf_0_11 (n3 _) dX0_busyCount_14 ?_
      refine J_iload_n 2 rfl dX0_busyCount_17 ?_
      refine J_aald 2 5 (n14 _) rfl rfl (vp_in_iff.mpr (by decide)) (by decide) dX0_busyCount_18 ?_
      rcases opt_split (R 14 0 2) with o20 | ⟨a21, o20⟩
      · skip
        refine J_topv (v' := .null) (by first | rfl | (rw [o20]; rfl)) ?_
        refine J_ifnullN 25 (by decide) dX0_busyCount_19 ?_
        refine J_iinc (v := 3) (lv' := [(0, .ref (ka S 3 0)), (1, .int 1), (2, .int 3)]) 2 rfl (by decide) (by decide) rfl dX0_busyCount_25 ?_
        refine J_goto 4 (by decide) dX0_busyCount_28 ?_
        refine J_iload_n 2 rfl dX0_busyCount_4 ?_
        refine J_aload_n 0 rfl dX0_busyCount_5 ?_
        refine gf_0_11 (n3 _) dX0_busyCount_6 ?_
        refine J_alen (v := 3) 5 (n14 _) rfl rfl rfl dX0_busyCount_9 ?_
        refine J_icmp_ge 31 (by decide) dX0_busyCount_10 (fun c23 => ?_) (fun c23 => ?_)
        rotate_left
        · exact absurd (by decide) c23
        refine J_iload_n 1 rfl dX0_busyCount_31 ?_
        exact J_ireturn rfl (by first | rfl | assumption | simp [kb_nar]) dX0_busyCount_32 (⟨by simp [busyF, *], rfl⟩) (by omega) (by omega)
      · skip
        have ma21 : a21 ∈ LP := hsp _ _ (by decide) o20
        refine J_topv (v' := .ref a21) (by first | rfl | (rw [o20]; rfl)) ?_
        refine J_ifnull dX0_busyCount_19 ?_
        refine J_iinc (v := 2) (lv' := [(0, .ref (ka S 3 0)), (1, .int 2), (2, .int 2)]) 1 rfl (by decide) (by decide) rfl dX0_busyCount_22 ?_
        refine J_iinc (v := 3) (lv' := [(0, .ref (ka S 3 0)), (1, .int 2), (2, .int 3)]) 2 rfl (by decide) (by decide) rfl dX0_busyCount_25 ?_
        refine J_goto 4 (by decide) dX0_busyCount_28 ?_
        refine J_iload_n 2 rfl dX0_busyCount_4 ?_
        refine J_aload_n 0 rfl dX0_busyCount_5 ?_
        refine gf_0_11 (n3 _) dX0_busyCount_6 ?_
        refine J_alen (v := 3) 5 (n14 _) rfl rfl rfl dX0_busyCount_9 ?_
        refine J_icmp_ge 31 (by decide) dX0_busyCount_10 (fun c26 => ?_) (fun c26 => ?_)
        rotate_left
        · exact absurd (by decide) c26
        refine J_iload_n 1 rfl dX0_busyCount_31 ?_
        exact J_ireturn rfl (by first | rfl | assumption | simp [kb_nar]) dX0_busyCount_32 (⟨by simp [busyF, *], rfl⟩) (by omega) (by omega)
  · skip
    have ma3 : a3 ∈ LP := hsp _ _ (by decide) o2
    refine J_topv (v' := .ref a3) (by first | rfl | (rw [o2]; rfl)) ?_
    refine J_ifnull dX0_busyCount_19 ?_
    refine J_iinc (v := 1) (lv' := [(0, .ref (ka S 3 0)), (1, .int 1), (2, .int 0)]) 1 rfl (by decide) (by decide) rfl dX0_busyCount_22 ?_
    refine J_iinc (v := 1) (lv' := [(0, .ref (ka S 3 0)), (1, .int 1), (2, .int 1)]) 2 rfl (by decide) (by decide) rfl dX0_busyCount_25 ?_
    refine J_goto 4 (by decide) dX0_busyCount_28 ?_
    refine J_iload_n 2 rfl dX0_busyCount_4 ?_
    refine J_aload_n 0 rfl dX0_busyCount_5 ?_
    refine gf_0_11 (n3 _) dX0_busyCount_6 ?_
    refine J_alen (v := 3) 5 (n14 _) rfl rfl rfl dX0_busyCount_9 ?_
    refine J_icmp_ge 31 (by decide) dX0_busyCount_10 (fun c29 => ?_) (fun c29 => ?_)
    · exact absurd c29 (by decide)
    refine J_aload_n 0 rfl dX0_busyCount_13 ?_
    refine gf_0_11 (n3 _) dX0_busyCount_14 ?_
    refine J_iload_n 2 rfl dX0_busyCount_17 ?_
    refine J_aald 1 5 (n14 _) rfl rfl (vp_in_iff.mpr (by decide)) (by decide) dX0_busyCount_18 ?_
    rcases opt_split (R 14 0 1) with o30 | ⟨a31, o30⟩
    · skip
      refine J_topv (v' := .null) (by first | rfl | (rw [o30]; rfl)) ?_
      refine J_ifnullN 25 (by decide) dX0_busyCount_19 ?_
      refine J_iinc (v := 2) (lv' := [(0, .ref (ka S 3 0)), (1, .int 1), (2, .int 2)]) 2 rfl (by decide) (by decide) rfl dX0_busyCount_25 ?_
      refine J_goto 4 (by decide) dX0_busyCount_28 ?_
      refine J_iload_n 2 rfl dX0_busyCount_4 ?_
      refine J_aload_n 0 rfl dX0_busyCount_5 ?_
      refine gf_0_11 (n3 _) dX0_busyCount_6 ?_
      refine J_alen (v := 3) 5 (n14 _) rfl rfl rfl dX0_busyCount_9 ?_
      refine J_icmp_ge 31 (by decide) dX0_busyCount_10 (fun c33 => ?_) (fun c33 => ?_)
      · exact absurd c33 (by decide)
      refine J_aload_n 0 rfl dX0_busyCount_13 ?_
      refine gf_0_11 (n3 _) dX0_busyCount_14 ?_
      refine J_iload_n 2 rfl dX0_busyCount_17 ?_
      refine J_aald 2 5 (n14 _) rfl rfl (vp_in_iff.mpr (by decide)) (by decide) dX0_busyCount_18 ?_
      rcases opt_split (R 14 0 2) with o34 | ⟨a35, o34⟩
      · skip
        refine J_topv (v' := .null) (by first | rfl | (rw [o34]; rfl)) ?_
        refine J_ifnullN 25 (by decide) dX0_busyCount_19 ?_
        refine J_iinc (v := 3) (lv' := [(0, .ref (ka S 3 0)), (1, .int 1), (2, .int 3)]) 2 rfl (by decide) (by decide) rfl dX0_busyCount_25 ?_
        refine J_goto 4 (by decide) dX0_busyCount_28 ?_
        refine J_iload_n 2 rfl dX0_busyCount_4 ?_
        refine J_aload_n 0 rfl dX0_busyCount_5 ?_
        refine gf_0_11 (n3 _) dX0_busyCount_6 ?_
        refine J_alen (v := 3) 5 (n14 _) rfl rfl rfl dX0_busyCount_9 ?_
        refine J_icmp_ge 31 (by decide) dX0_busyCount_10 (fun c37 => ?_) (fun c37 => ?_)
        rotate_left
        · exact absurd (by decide) c37
        refine J_iload_n 1 rfl dX0_busyCount_31 ?_
        exact J_ireturn rfl (by first | rfl | assumption | simp [kb_nar]) dX0_busyCount_32 (⟨by simp [busyF, *], rfl⟩) (by omega) (by omega)
      · skip
        have ma35 : a35 ∈ LP := hsp _ _ (by decide) o34
        refine J_topv (v' := .ref a35) (by first | rfl | (rw [o34]; rfl)) ?_
        refine J_ifnull dX0_busyCount_19 ?_
        refine J_iinc (v := 2) (lv' := [(0, .ref (ka S 3 0)), (1, .int 2), (2, .int 2)]) 1 rfl (by decide) (by decide) rfl dX0_busyCount_22 ?_
        refine J_iinc (v := 3) (lv' := [(0, .ref (ka S 3 0)), (1, .int 2), (2, .int 3)]) 2 rfl (by decide) (by decide) rfl dX0_busyCount_25 ?_
        refine J_goto 4 (by decide) dX0_busyCount_28 ?_
        refine J_iload_n 2 rfl dX0_busyCount_4 ?_
        refine J_aload_n 0 rfl dX0_busyCount_5 ?_
        refine gf_0_11 (n3 _) dX0_busyCount_6 ?_
        refine J_alen (v := 3) 5 (n14 _) rfl rfl rfl dX0_busyCount_9 ?_
        refine J_icmp_ge 31 (by decide) dX0_busyCount_10 (fun c40 => ?_) (fun c40 => ?_)
        rotate_left
        · exact absurd (by decide) c40
        refine J_iload_n 1 rfl dX0_busyCount_31 ?_
        exact J_ireturn rfl (by first | rfl | assumption | simp [kb_nar]) dX0_busyCount_32 (⟨by simp [busyF, *], rfl⟩) (by omega) (by omega)
    · skip
      have ma31 : a31 ∈ LP := hsp _ _ (by decide) o30
      refine J_topv (v' := .ref a31) (by first | rfl | (rw [o30]; rfl)) ?_
      refine J_ifnull dX0_busyCount_19 ?_
      refine J_iinc (v := 2) (lv' := [(0, .ref (ka S 3 0)), (1, .int 2), (2, .int 1)]) 1 rfl (by decide) (by decide) rfl dX0_busyCount_22 ?_
      refine J_iinc (v := 2) (lv' := [(0, .ref (ka S 3 0)), (1, .int 2), (2, .int 2)]) 2 rfl (by decide) (by decide) rfl dX0_busyCount_25 ?_
      refine J_goto 4 (by decide) dX0_busyCount_28 ?_
      refine J_iload_n 2 rfl dX0_busyCount_4 ?_
      refine J_aload_n 0 rfl dX0_busyCount_5 ?_
      refine gf_0_11 (n3 _) dX0_busyCount_6 ?_
      refine J_alen (v := 3) 5 (n14 _) rfl rfl rfl dX0_busyCount_9 ?_
      refine J_icmp_ge 31 (by decide) dX0_busyCount_10 (fun c43 => ?_) (fun c43 => ?_)
      · exact absurd c43 (by decide)
      refine J_aload_n 0 rfl dX0_busyCount_13 ?_
      refine gf_0_11 (n3 _) dX0_busyCount_14 ?_
      refine J_iload_n 2 rfl dX0_busyCount_17 ?_
      refine J_aald 2 5 (n14 _) rfl rfl (vp_in_iff.mpr (by decide)) (by decide) dX0_busyCount_18 ?_
      rcases opt_split (R 14 0 2) with o44 | ⟨a45, o44⟩
      · skip
        refine J_topv (v' := .null) (by first | rfl | (rw [o44]; rfl)) ?_
        refine J_ifnullN 25 (by decide) dX0_busyCount_19 ?_
        refine J_iinc (v := 3) (lv' := [(0, .ref (ka S 3 0)), (1, .int 2), (2, .int 3)]) 2 rfl (by decide) (by decide) rfl dX0_busyCount_25 ?_
        refine J_goto 4 (by decide) dX0_busyCount_28 ?_
        refine J_iload_n 2 rfl dX0_busyCount_4 ?_
        refine J_aload_n 0 rfl dX0_busyCount_5 ?_
        refine gf_0_11 (n3 _) dX0_busyCount_6 ?_
        refine J_alen (v := 3) 5 (n14 _) rfl rfl rfl dX0_busyCount_9 ?_
        refine J_icmp_ge 31 (by decide) dX0_busyCount_10 (fun c47 => ?_) (fun c47 => ?_)
        rotate_left
        · exact absurd (by decide) c47
        refine J_iload_n 1 rfl dX0_busyCount_31 ?_
        exact J_ireturn rfl (by first | rfl | assumption | simp [kb_nar]) dX0_busyCount_32 (⟨by simp [busyF, *], rfl⟩) (by omega) (by omega)
      · skip
        have ma45 : a45 ∈ LP := hsp _ _ (by decide) o44
        refine J_topv (v' := .ref a45) (by first | rfl | (rw [o44]; rfl)) ?_
        refine J_ifnull dX0_busyCount_19 ?_
        refine J_iinc (v := 3) (lv' := [(0, .ref (ka S 3 0)), (1, .int 3), (2, .int 2)]) 1 rfl (by decide) (by decide) rfl dX0_busyCount_22 ?_
        refine J_iinc (v := 3) (lv' := [(0, .ref (ka S 3 0)), (1, .int 3), (2, .int 3)]) 2 rfl (by decide) (by decide) rfl dX0_busyCount_25 ?_
        refine J_goto 4 (by decide) dX0_busyCount_28 ?_
        refine J_iload_n 2 rfl dX0_busyCount_4 ?_
        refine J_aload_n 0 rfl dX0_busyCount_5 ?_
        refine gf_0_11 (n3 _) dX0_busyCount_6 ?_
        refine J_alen (v := 3) 5 (n14 _) rfl rfl rfl dX0_busyCount_9 ?_
        refine J_icmp_ge 31 (by decide) dX0_busyCount_10 (fun c50 => ?_) (fun c50 => ?_)
        rotate_left
        · exact absurd (by decide) c50
        refine J_iload_n 1 rfl dX0_busyCount_31 ?_
        exact J_ireturn rfl (by first | rfl | assumption | simp [kb_nar]) dX0_busyCount_32 (⟨by simp [busyF, *], rfl⟩) (by omega) (by omega)

def spkF (R : kRf) (c : Int32) : Option Nat := if 0 ≤ c ∧ c < 3 then R 14 0 c.toNatClampNeg else none
def freeF (I : kI) (R : kRf) (a : Nat) : Int32 := if R 14 0 0 = none ∧ mayF I a 0 then 0 else if R 14 0 1 = none then 1 else if R 14 0 2 = none then 2 else -1
/-- can a call have what stands on a channel -/
def havF (I : kI) (a : Nat) (r : Option Nat) : Bool := match r with
  | none => true
  | some b => brkF I a b
theorem havF_n {I : kI} {a : Nat} : havF I a none = true := rfl
theorem havF_s {I : kI} {a b : Nat} : havF I a (some b) = brkF I a b := rfl
def takF (I : kI) (R : kRf) (a : Nat) (v : Int32) : Bool := (havF I a (R 14 0 0) || !shF I v (R 14 0 0)) && ((havF I a (R 14 0 1) || !shF I v (R 14 0 1)) && ((havF I a (R 14 0 2) || !shF I v (R 14 0 2)) && (decide (v ≠ 0) && ((havF I a (R 14 0 0) && mayF I a 0) || (havF I a (R 14 0 1) || havF I a (R 14 0 2))))))
def luF (I : kI) (a : Nat) (c : Int32) (least r : Option Nat) : Option Nat := match r with
  | none => least
  | some b => if mayF I a c then (match least with
    | none => some b
    | some l => if easF I b l then some b else some l) else least
theorem luF_n {I : kI} {a : Nat} {c : Int32} {l : Option Nat} : luF I a c l none = l := rfl
theorem luF_s1 {I : kI} {a b : Nat} {c : Int32} : luF I a c none (some b) = if mayF I a c then some b else none := rfl
theorem luF_s2 {I : kI} {a b l : Nat} {c : Int32} : luF I a c (some l) (some b) = if mayF I a c then (if easF I b l then some b else some l) else some l := rfl
def leaF (I : kI) (R : kRf) (a : Nat) : Option Nat := luF I a 2 (luF I a 1 (luF I a 0 none (R 14 0 0)) (R 14 0 1)) (R 14 0 2)
theorem may_1 {I : kI} {a : Nat} : mayF I a 1 = true := by simp [mayF]
theorem may_2 {I : kI} {a : Nat} : mayF I a 2 = true := by simp [mayF]

set_option maxRecDepth 20000 in
theorem c_X0_speaker {cy : Nat → ClassId} {S : Nat → Nat → Nat} {I : kI} {L : kL} {R : kRf} {LP : List Nat} {c : Int32} (hsp : inLP R 14 3 LP)  : Con yX0_speaker cX0_speaker 2 (some (.object "FoghornExchange$RadioCall")) 0 0 0 cy [.ref (ka S 3 0), .int c] (wc cy S I L R LP) (kRet (some (va_rf (spkF R c))) (wc cy S I L R LP)) kF := by
  refine Con_of (by decide +kernel) (Nat.le_of_ble_eq_true rfl) ?_
  refine J_eq (lv' := [(0, .ref (ka S 3 0)), (1, .int c)]) rfl rfl rfl ?_
  refine J_iload_n 1 rfl dX0_speaker_0 ?_
  refine J_if_lt 22 (by decide) dX0_speaker_1 (fun c1 => ?_) (fun c1 => ?_)
  · skip
    refine J_null dX0_speaker_22 ?_
    exact J_areturn rfl (by first | exact Or.inl ⟨_, rfl⟩ | exact Or.inr ⟨_, rfl⟩) (by first | exact Or.inl rfl | exact Or.inr ⟨_, rfl⟩ | exact va_rf_or _) dX0_speaker_23 (⟨by unfold spkF; first | (rw [if_neg (by grind)]; done) | (rw [if_neg (by grind)]; rfl) | (rw [if_pos (by grind)]; simp [vr_n, vr_s, *]; done), rfl⟩) (by omega) (by omega)
  · skip
    refine J_iload_n 1 rfl dX0_speaker_4 ?_
    refine J_aload_n 0 rfl dX0_speaker_5 ?_
    refine gf_0_11 (n3 _) dX0_speaker_6 ?_
    refine J_alen (v := 3) 5 (n14 _) rfl rfl rfl dX0_speaker_9 ?_
    refine J_icmp_ge 22 (by decide) dX0_speaker_10 (fun c2 => ?_) (fun c2 => ?_)
    · skip
      refine J_null dX0_speaker_22 ?_
      exact J_areturn rfl (by first | exact Or.inl ⟨_, rfl⟩ | exact Or.inr ⟨_, rfl⟩) (by first | exact Or.inl rfl | exact Or.inr ⟨_, rfl⟩ | exact va_rf_or _) dX0_speaker_23 (⟨by unfold spkF; first | (rw [if_neg (by grind)]; done) | (rw [if_neg (by grind)]; rfl) | (rw [if_pos (by grind)]; simp [vr_n, vr_s, *]; done), rfl⟩) (by omega) (by omega)
    · skip
      refine J_aload_n 0 rfl dX0_speaker_13 ?_
      refine gf_0_11 (n3 _) dX0_speaker_14 ?_
      refine J_iload_n 1 rfl dX0_speaker_17 ?_
      have hc3 : vp_in c 3 := vp3 (by assumption) (by assumption)
      refine J_aald c.toNatClampNeg 5 (n14 _) rfl rfl (by assumption) rfl dX0_speaker_18 ?_
      rcases opt_split (R 14 0 c.toNatClampNeg) with o3 | ⟨a4, o3⟩
      · skip
        refine J_topv (v' := .null) (by first | rfl | (rw [o3]; rfl)) ?_
        refine J_goto 23 (by decide) dX0_speaker_19 ?_
        exact J_areturn rfl (by first | exact Or.inl ⟨_, rfl⟩ | exact Or.inr ⟨_, rfl⟩) (by first | exact Or.inl rfl | exact Or.inr ⟨_, rfl⟩ | exact va_rf_or _) dX0_speaker_23 (⟨by unfold spkF; first | (rw [if_neg (by grind)]; done) | (rw [if_neg (by grind)]; rfl) | (rw [if_pos (by grind)]; simp [vr_n, vr_s, *]; done), rfl⟩) (by omega) (by omega)
      · skip
        have ma4 : a4 ∈ LP := hsp _ _ (by first | assumption | omega | exact vp_in_lt (by assumption)) o3
        refine J_topv (v' := .ref a4) (by first | rfl | (rw [o3]; rfl)) ?_
        refine J_goto 23 (by decide) dX0_speaker_19 ?_
        exact J_areturn rfl (by first | exact Or.inl ⟨_, rfl⟩ | exact Or.inr ⟨_, rfl⟩) (by first | exact Or.inl rfl | exact Or.inr ⟨_, rfl⟩ | exact va_rf_or _) dX0_speaker_23 (⟨by unfold spkF; first | (rw [if_neg (by grind)]; done) | (rw [if_neg (by grind)]; rfl) | (rw [if_pos (by grind)]; simp [vr_n, vr_s, *]; done), rfl⟩) (by omega) (by omega)

set_option maxRecDepth 20000 in
theorem c_X0_freeFor {cy : Nat → ClassId} {S : Nat → Nat → Nat} {I : kI} {L : kL} {R : kRf} {LP : List Nat} {a : Nat} (hsp : inLP R 14 3 LP) (ha : a ∈ LP) : Con yX0_freeFor cX0_freeFor 3 (some .int) 1 0 0 cy [.ref (ka S 3 0), .ref a] (wc cy S I L R LP) (kRet (some (.int (freeF I R a))) (wc cy S I L R LP)) kF := by
  refine Con_of (by decide +kernel) (Nat.le_of_ble_eq_true rfl) ?_
  refine J_eq (lv' := [(0, .ref (ka S 3 0)), (1, .ref a)]) rfl rfl rfl ?_
  refine J_iconst (v := 0) (by decide) dX0_freeFor_0 ?_
  refine J_istore_n (lv' := [(0, .ref (ka S 3 0)), (1, .ref a), (2, .int 0)]) (by decide) rfl dX0_freeFor_1 ?_
  refine J_iload_n 2 rfl dX0_freeFor_2 ?_
  refine J_aload_n 0 rfl dX0_freeFor_3 ?_
  refine gf_0_11 (n3 _) dX0_freeFor_4 ?_
  refine J_alen (v := 3) 5 (n14 _) rfl rfl rfl dX0_freeFor_7 ?_
  refine J_icmp_ge 36 (by decide) dX0_freeFor_8 (fun c1 => ?_) (fun c1 => ?_)
  · exact absurd c1 (by decide)
  refine J_aload_n 0 rfl dX0_freeFor_11 ?_
  refine gf_0_11 (n3 _) dX0_freeFor_12 ?_
  refine J_iload_n 2 rfl dX0_freeFor_15 ?_
  refine J_aald 0 5 (n14 _) rfl rfl (vp_in_iff.mpr (by decide)) (by decide) dX0_freeFor_16 ?_
  rcases opt_split (R 14 0 0) with o2 | ⟨a3, o2⟩
  · skip
    refine J_topv (v' := .null) (by first | rfl | (rw [o2]; rfl)) ?_
    refine J_ifnonnullN dX0_freeFor_17 ?_
    refine J_aload_n 1 rfl dX0_freeFor_20 ?_
    refine J_iload_n 2 rfl dX0_freeFor_21 ?_
    refine cv_0_29 (cells' := 0) (slots' := 0) dX0_freeFor_22 (c_X5_mayHave (by assumption)) (n20 (by assumption)) ⟨by decide, by decide⟩ rfl rfl (by decide) (by decide) (Nat.le_of_ble_eq_true rfl) (fun _ _ r4 => ?_) (fun _ _ h => h.elim)
    obtain ⟨rfl, rfl⟩ := r4
    refine J_eq (st' := [.int (kb (mayF I a 0))]) rfl rfl rfl ?_
    refine J_if_eq 30 (by decide) dX0_freeFor_25 (fun c5 => ?_) (fun c5 => ?_)
    · skip
      refine J_iinc (v := 1) (lv' := [(0, .ref (ka S 3 0)), (1, .ref a), (2, .int 1)]) 2 rfl (by decide) (by decide) rfl dX0_freeFor_30 ?_
      refine J_goto 2 (by decide) dX0_freeFor_33 ?_
      refine J_iload_n 2 rfl dX0_freeFor_2 ?_
      refine J_aload_n 0 rfl dX0_freeFor_3 ?_
      refine gf_0_11 (n3 _) dX0_freeFor_4 ?_
      refine J_alen (v := 3) 5 (n14 _) rfl rfl rfl dX0_freeFor_7 ?_
      refine J_icmp_ge 36 (by decide) dX0_freeFor_8 (fun c7 => ?_) (fun c7 => ?_)
      · exact absurd c7 (by decide)
      refine J_aload_n 0 rfl dX0_freeFor_11 ?_
      refine gf_0_11 (n3 _) dX0_freeFor_12 ?_
      refine J_iload_n 2 rfl dX0_freeFor_15 ?_
      refine J_aald 1 5 (n14 _) rfl rfl (vp_in_iff.mpr (by decide)) (by decide) dX0_freeFor_16 ?_
      rcases opt_split (R 14 0 1) with o8 | ⟨a9, o8⟩
      · skip
        refine J_topv (v' := .null) (by first | rfl | (rw [o8]; rfl)) ?_
        refine J_ifnonnullN dX0_freeFor_17 ?_
        refine J_aload_n 1 rfl dX0_freeFor_20 ?_
        refine J_iload_n 2 rfl dX0_freeFor_21 ?_
        refine cv_0_29 (cells' := 0) (slots' := 0) dX0_freeFor_22 (c_X5_mayHave (by assumption)) (n20 (by assumption)) ⟨by decide, by decide⟩ rfl rfl (by decide) (by decide) (Nat.le_of_ble_eq_true rfl) (fun _ _ r10 => ?_) (fun _ _ h => h.elim)
        obtain ⟨rfl, rfl⟩ := r10
        refine J_eq (st' := [.int (kb (mayF I a 1))]) rfl rfl rfl ?_
        refine J_topv (v' := .int 1) (by first | rfl | (rw [may_1]; rfl)) ?_
        refine J_if_eq 30 (by decide) dX0_freeFor_25 (fun c11 => ?_) (fun c11 => ?_)
        · exact absurd c11 (by decide)
        refine J_iload_n 2 rfl dX0_freeFor_28 ?_
        exact J_ireturn rfl (by first | rfl | assumption | simp [kb_nar]) dX0_freeFor_29 (⟨by (try simp only [kb_0, kb_1, kb_n0, kb_n1, decide_eq_false_iff_not, decide_eq_true_eq, ne_eq, Classical.not_not] at *); first | (simp [kb, kb_0, kb_1, vr_n, vr_s, freeF, may_1, may_2, *]; done) | (simp [kb, kb_0, kb_1, vr_n, vr_s, freeF, may_1, may_2, *] <;> grind), rfl⟩) (by omega) (by omega)
      · skip
        have ma9 : a9 ∈ LP := hsp _ _ (by decide) o8
        refine J_topv (v' := .ref a9) (by first | rfl | (rw [o8]; rfl)) ?_
        refine J_ifnonnull 30 (by decide) dX0_freeFor_17 ?_
        refine J_iinc (v := 2) (lv' := [(0, .ref (ka S 3 0)), (1, .ref a), (2, .int 2)]) 2 rfl (by decide) (by decide) rfl dX0_freeFor_30 ?_
        refine J_goto 2 (by decide) dX0_freeFor_33 ?_
        refine J_iload_n 2 rfl dX0_freeFor_2 ?_
        refine J_aload_n 0 rfl dX0_freeFor_3 ?_
        refine gf_0_11 (n3 _) dX0_freeFor_4 ?_
        refine J_alen (v := 3) 5 (n14 _) rfl rfl rfl dX0_freeFor_7 ?_
        refine J_icmp_ge 36 (by decide) dX0_freeFor_8 (fun c13 => ?_) (fun c13 => ?_)
        · exact absurd c13 (by decide)
        refine J_aload_n 0 rfl dX0_freeFor_11 ?_
        refine gf_0_11 (n3 _) dX0_freeFor_12 ?_
        refine J_iload_n 2 rfl dX0_freeFor_15 ?_
        refine J_aald 2 5 (n14 _) rfl rfl (vp_in_iff.mpr (by decide)) (by decide) dX0_freeFor_16 ?_
        rcases opt_split (R 14 0 2) with o14 | ⟨a15, o14⟩
        · skip
          refine J_topv (v' := .null) (by first | rfl | (rw [o14]; rfl)) ?_
          refine J_ifnonnullN dX0_freeFor_17 ?_
          refine J_aload_n 1 rfl dX0_freeFor_20 ?_
          refine J_iload_n 2 rfl dX0_freeFor_21 ?_
          refine cv_0_29 (cells' := 0) (slots' := 0) dX0_freeFor_22 (c_X5_mayHave (by assumption)) (n20 (by assumption)) ⟨by decide, by decide⟩ rfl rfl (by decide) (by decide) (Nat.le_of_ble_eq_true rfl) (fun _ _ r16 => ?_) (fun _ _ h => h.elim)
          obtain ⟨rfl, rfl⟩ := r16
          refine J_eq (st' := [.int (kb (mayF I a 2))]) rfl rfl rfl ?_
          refine J_topv (v' := .int 1) (by first | rfl | (rw [may_2]; rfl)) ?_
          refine J_if_eq 30 (by decide) dX0_freeFor_25 (fun c17 => ?_) (fun c17 => ?_)
          · exact absurd c17 (by decide)
          refine J_iload_n 2 rfl dX0_freeFor_28 ?_
          exact J_ireturn rfl (by first | rfl | assumption | simp [kb_nar]) dX0_freeFor_29 (⟨by (try simp only [kb_0, kb_1, kb_n0, kb_n1, decide_eq_false_iff_not, decide_eq_true_eq, ne_eq, Classical.not_not] at *); first | (simp [kb, kb_0, kb_1, vr_n, vr_s, freeF, may_1, may_2, *]; done) | (simp [kb, kb_0, kb_1, vr_n, vr_s, freeF, may_1, may_2, *] <;> grind), rfl⟩) (by omega) (by omega)
        · skip
          have ma15 : a15 ∈ LP := hsp _ _ (by decide) o14
          refine J_topv (v' := .ref a15) (by first | rfl | (rw [o14]; rfl)) ?_
          refine J_ifnonnull 30 (by decide) dX0_freeFor_17 ?_
          refine J_iinc (v := 3) (lv' := [(0, .ref (ka S 3 0)), (1, .ref a), (2, .int 3)]) 2 rfl (by decide) (by decide) rfl dX0_freeFor_30 ?_
          refine J_goto 2 (by decide) dX0_freeFor_33 ?_
          refine J_iload_n 2 rfl dX0_freeFor_2 ?_
          refine J_aload_n 0 rfl dX0_freeFor_3 ?_
          refine gf_0_11 (n3 _) dX0_freeFor_4 ?_
          refine J_alen (v := 3) 5 (n14 _) rfl rfl rfl dX0_freeFor_7 ?_
          refine J_icmp_ge 36 (by decide) dX0_freeFor_8 (fun c19 => ?_) (fun c19 => ?_)
          rotate_left
          · exact absurd (by decide) c19
          refine J_iconst (v := (-1)) (by decide) dX0_freeFor_36 ?_
          exact J_ireturn rfl (by first | rfl | assumption | simp [kb_nar]) dX0_freeFor_37 (⟨by (try simp only [kb_0, kb_1, kb_n0, kb_n1, decide_eq_false_iff_not, decide_eq_true_eq, ne_eq, Classical.not_not] at *); first | (simp [kb, kb_0, kb_1, vr_n, vr_s, freeF, may_1, may_2, *]; done) | (simp [kb, kb_0, kb_1, vr_n, vr_s, freeF, may_1, may_2, *] <;> grind), rfl⟩) (by omega) (by omega)
    · skip
      refine J_iload_n 2 rfl dX0_freeFor_28 ?_
      exact J_ireturn rfl (by first | rfl | assumption | simp [kb_nar]) dX0_freeFor_29 (⟨by (try simp only [kb_0, kb_1, kb_n0, kb_n1, decide_eq_false_iff_not, decide_eq_true_eq, ne_eq, Classical.not_not] at *); first | (simp [kb, kb_0, kb_1, vr_n, vr_s, freeF, may_1, may_2, *]; done) | (simp [kb, kb_0, kb_1, vr_n, vr_s, freeF, may_1, may_2, *] <;> grind), rfl⟩) (by omega) (by omega)
  · skip
    have ma3 : a3 ∈ LP := hsp _ _ (by decide) o2
    refine J_topv (v' := .ref a3) (by first | rfl | (rw [o2]; rfl)) ?_
    refine J_ifnonnull 30 (by decide) dX0_freeFor_17 ?_
    refine J_iinc (v := 1) (lv' := [(0, .ref (ka S 3 0)), (1, .ref a), (2, .int 1)]) 2 rfl (by decide) (by decide) rfl dX0_freeFor_30 ?_
    refine J_goto 2 (by decide) dX0_freeFor_33 ?_
    refine J_iload_n 2 rfl dX0_freeFor_2 ?_
    refine J_aload_n 0 rfl dX0_freeFor_3 ?_
    refine gf_0_11 (n3 _) dX0_freeFor_4 ?_
    refine J_alen (v := 3) 5 (n14 _) rfl rfl rfl dX0_freeFor_7 ?_
    refine J_icmp_ge 36 (by decide) dX0_freeFor_8 (fun c21 => ?_) (fun c21 => ?_)
    · exact absurd c21 (by decide)
    refine J_aload_n 0 rfl dX0_freeFor_11 ?_
    refine gf_0_11 (n3 _) dX0_freeFor_12 ?_
    refine J_iload_n 2 rfl dX0_freeFor_15 ?_
    refine J_aald 1 5 (n14 _) rfl rfl (vp_in_iff.mpr (by decide)) (by decide) dX0_freeFor_16 ?_
    rcases opt_split (R 14 0 1) with o22 | ⟨a23, o22⟩
    · skip
      refine J_topv (v' := .null) (by first | rfl | (rw [o22]; rfl)) ?_
      refine J_ifnonnullN dX0_freeFor_17 ?_
      refine J_aload_n 1 rfl dX0_freeFor_20 ?_
      refine J_iload_n 2 rfl dX0_freeFor_21 ?_
      refine cv_0_29 (cells' := 0) (slots' := 0) dX0_freeFor_22 (c_X5_mayHave (by assumption)) (n20 (by assumption)) ⟨by decide, by decide⟩ rfl rfl (by decide) (by decide) (Nat.le_of_ble_eq_true rfl) (fun _ _ r24 => ?_) (fun _ _ h => h.elim)
      obtain ⟨rfl, rfl⟩ := r24
      refine J_eq (st' := [.int (kb (mayF I a 1))]) rfl rfl rfl ?_
      refine J_topv (v' := .int 1) (by first | rfl | (rw [may_1]; rfl)) ?_
      refine J_if_eq 30 (by decide) dX0_freeFor_25 (fun c25 => ?_) (fun c25 => ?_)
      · exact absurd c25 (by decide)
      refine J_iload_n 2 rfl dX0_freeFor_28 ?_
      exact J_ireturn rfl (by first | rfl | assumption | simp [kb_nar]) dX0_freeFor_29 (⟨by (try simp only [kb_0, kb_1, kb_n0, kb_n1, decide_eq_false_iff_not, decide_eq_true_eq, ne_eq, Classical.not_not] at *); first | (simp [kb, kb_0, kb_1, vr_n, vr_s, freeF, may_1, may_2, *]; done) | (simp [kb, kb_0, kb_1, vr_n, vr_s, freeF, may_1, may_2, *] <;> grind), rfl⟩) (by omega) (by omega)
    · skip
      have ma23 : a23 ∈ LP := hsp _ _ (by decide) o22
      refine J_topv (v' := .ref a23) (by first | rfl | (rw [o22]; rfl)) ?_
      refine J_ifnonnull 30 (by decide) dX0_freeFor_17 ?_
      refine J_iinc (v := 2) (lv' := [(0, .ref (ka S 3 0)), (1, .ref a), (2, .int 2)]) 2 rfl (by decide) (by decide) rfl dX0_freeFor_30 ?_
      refine J_goto 2 (by decide) dX0_freeFor_33 ?_
      refine J_iload_n 2 rfl dX0_freeFor_2 ?_
      refine J_aload_n 0 rfl dX0_freeFor_3 ?_
      refine gf_0_11 (n3 _) dX0_freeFor_4 ?_
      refine J_alen (v := 3) 5 (n14 _) rfl rfl rfl dX0_freeFor_7 ?_
      refine J_icmp_ge 36 (by decide) dX0_freeFor_8 (fun c27 => ?_) (fun c27 => ?_)
      · exact absurd c27 (by decide)
      refine J_aload_n 0 rfl dX0_freeFor_11 ?_
      refine gf_0_11 (n3 _) dX0_freeFor_12 ?_
      refine J_iload_n 2 rfl dX0_freeFor_15 ?_
      refine J_aald 2 5 (n14 _) rfl rfl (vp_in_iff.mpr (by decide)) (by decide) dX0_freeFor_16 ?_
      rcases opt_split (R 14 0 2) with o28 | ⟨a29, o28⟩
      · skip
        refine J_topv (v' := .null) (by first | rfl | (rw [o28]; rfl)) ?_
        refine J_ifnonnullN dX0_freeFor_17 ?_
        refine J_aload_n 1 rfl dX0_freeFor_20 ?_
        refine J_iload_n 2 rfl dX0_freeFor_21 ?_
        refine cv_0_29 (cells' := 0) (slots' := 0) dX0_freeFor_22 (c_X5_mayHave (by assumption)) (n20 (by assumption)) ⟨by decide, by decide⟩ rfl rfl (by decide) (by decide) (Nat.le_of_ble_eq_true rfl) (fun _ _ r30 => ?_) (fun _ _ h => h.elim)
        obtain ⟨rfl, rfl⟩ := r30
        refine J_eq (st' := [.int (kb (mayF I a 2))]) rfl rfl rfl ?_
        refine J_topv (v' := .int 1) (by first | rfl | (rw [may_2]; rfl)) ?_
        refine J_if_eq 30 (by decide) dX0_freeFor_25 (fun c31 => ?_) (fun c31 => ?_)
        · exact absurd c31 (by decide)
        refine J_iload_n 2 rfl dX0_freeFor_28 ?_
        exact J_ireturn rfl (by first | rfl | assumption | simp [kb_nar]) dX0_freeFor_29 (⟨by (try simp only [kb_0, kb_1, kb_n0, kb_n1, decide_eq_false_iff_not, decide_eq_true_eq, ne_eq, Classical.not_not] at *); first | (simp [kb, kb_0, kb_1, vr_n, vr_s, freeF, may_1, may_2, *]; done) | (simp [kb, kb_0, kb_1, vr_n, vr_s, freeF, may_1, may_2, *] <;> grind), rfl⟩) (by omega) (by omega)
      · skip
        have ma29 : a29 ∈ LP := hsp _ _ (by decide) o28
        refine J_topv (v' := .ref a29) (by first | rfl | (rw [o28]; rfl)) ?_
        refine J_ifnonnull 30 (by decide) dX0_freeFor_17 ?_
        refine J_iinc (v := 3) (lv' := [(0, .ref (ka S 3 0)), (1, .ref a), (2, .int 3)]) 2 rfl (by decide) (by decide) rfl dX0_freeFor_30 ?_
        refine J_goto 2 (by decide) dX0_freeFor_33 ?_
        refine J_iload_n 2 rfl dX0_freeFor_2 ?_
        refine J_aload_n 0 rfl dX0_freeFor_3 ?_
        refine gf_0_11 (n3 _) dX0_freeFor_4 ?_
        refine J_alen (v := 3) 5 (n14 _) rfl rfl rfl dX0_freeFor_7 ?_
        refine J_icmp_ge 36 (by decide) dX0_freeFor_8 (fun c33 => ?_) (fun c33 => ?_)
        rotate_left
        · exact absurd (by decide) c33
        refine J_iconst (v := (-1)) (by decide) dX0_freeFor_36 ?_
        exact J_ireturn rfl (by first | rfl | assumption | simp [kb_nar]) dX0_freeFor_37 (⟨by (try simp only [kb_0, kb_1, kb_n0, kb_n1, decide_eq_false_iff_not, decide_eq_true_eq, ne_eq, Classical.not_not] at *); first | (simp [kb, kb_0, kb_1, vr_n, vr_s, freeF, may_1, may_2, *]; done) | (simp [kb, kb_0, kb_1, vr_n, vr_s, freeF, may_1, may_2, *] <;> grind), rfl⟩) (by omega) (by omega)

set_option maxRecDepth 20000 in
theorem c_X0_canTake {cy : Nat → ClassId} {S : Nat → Nat → Nat} {I : kI} {L : kL} {R : kRf} {LP : List Nat} {a : Nat} {v : Int32} (hsp : inLP R 14 3 LP) (ha : a ∈ LP) : Con yX0_canTake cX0_canTake 7 (some .boolean) 1 0 0 cy [.ref (ka S 3 0), .ref a, .int v] (wc cy S I L R LP) (kRet (some (.int (kb (takF I R a v)))) (wc cy S I L R LP)) kF := by
  refine Con_of (by decide +kernel) (Nat.le_of_ble_eq_true rfl) ?_
  refine J_eq (lv' := [(0, .ref (ka S 3 0)), (1, .ref a), (2, .int v)]) rfl rfl rfl ?_
  refine J_iconst (v := 0) (by decide) dX0_canTake_0 ?_
  refine J_istore_n (lv' := [(0, .ref (ka S 3 0)), (1, .ref a), (2, .int v), (3, .int 0)]) (by decide) rfl dX0_canTake_1 ?_
  refine J_iconst (v := 0) (by decide) dX0_canTake_2 ?_
  refine J_istore (lv' := [(0, .ref (ka S 3 0)), (1, .ref a), (2, .int v), (3, .int 0), (4, .int 0)]) (by decide) rfl dX0_canTake_3 ?_
  refine J_iload 4 rfl dX0_canTake_5 ?_
  refine J_aload_n 0 rfl dX0_canTake_7 ?_
  refine gf_0_11 (n3 _) dX0_canTake_8 ?_
  refine J_alen (v := 3) 5 (n14 _) rfl rfl rfl dX0_canTake_11 ?_
  refine J_icmp_ge 83 (by decide) dX0_canTake_12 (fun c1 => ?_) (fun c1 => ?_)
  · exact absurd c1 (by decide)
  refine J_aload_n 0 rfl dX0_canTake_15 ?_
  refine gf_0_11 (n3 _) dX0_canTake_16 ?_
  refine J_iload 4 rfl dX0_canTake_19 ?_
  refine J_aald 0 5 (n14 _) rfl rfl (vp_in_iff.mpr (by decide)) (by decide) dX0_canTake_21 ?_
  rcases opt_split (R 14 0 0) with o2 | ⟨a3, o2⟩
  · skip
    refine J_topv (v' := .null) (by first | rfl | (rw [o2]; rfl)) ?_
    refine J_astoreN (lv' := [(0, .ref (ka S 3 0)), (1, .ref a), (2, .int v), (3, .int 0), (4, .int 0), (5, .null)]) (by decide) rfl dX0_canTake_22 ?_
    refine J_aloadN 5 rfl dX0_canTake_24 ?_
    refine J_ifnullN 38 (by decide) dX0_canTake_26 ?_
    refine J_iconst (v := 1) (by decide) dX0_canTake_38 ?_
    refine J_goto 43 (by decide) dX0_canTake_39 ?_
    refine J_istore (lv' := [(0, .ref (ka S 3 0)), (1, .ref a), (2, .int v), (3, .int 0), (4, .int 0), (5, .null), (6, .int 1)]) (by decide) rfl dX0_canTake_43 ?_
    refine J_iload 6 rfl dX0_canTake_45 ?_
    refine J_if_ne 61 (by decide) dX0_canTake_47 (fun c4 => ?_) (fun c4 => ?_)
    rotate_left
    · exact absurd c4 (by decide)
    refine J_iload 6 rfl dX0_canTake_61 ?_
    refine J_if_eq 77 (by decide) dX0_canTake_63 (fun c5 => ?_) (fun c5 => ?_)
    · exact absurd c5 (by decide)
    refine J_aload_n 1 rfl dX0_canTake_66 ?_
    refine J_iload 4 rfl dX0_canTake_67 ?_
    refine cv_0_29 (cells' := 0) (slots' := 0) dX0_canTake_69 (c_X5_mayHave (by assumption)) (n20 (by assumption)) ⟨by decide, by decide⟩ rfl rfl (by decide) (by decide) (Nat.le_of_ble_eq_true rfl) (fun _ _ r6 => ?_) (fun _ _ h => h.elim)
    obtain ⟨rfl, rfl⟩ := r6
    refine J_eq (st' := [.int (kb (mayF I a 0))]) rfl rfl rfl ?_
    refine J_if_eq 77 (by decide) dX0_canTake_72 (fun c7 => ?_) (fun c7 => ?_)
    · skip
      refine J_iinc (v := 1) (lv' := [(0, .ref (ka S 3 0)), (1, .ref a), (2, .int v), (3, .int 0), (4, .int 1), (5, .null), (6, .int 1)]) 4 rfl (by decide) (by decide) rfl dX0_canTake_77 ?_
      refine J_goto 5 (by decide) dX0_canTake_80 ?_
      refine J_iload 4 rfl dX0_canTake_5 ?_
      refine J_aload_n 0 rfl dX0_canTake_7 ?_
      refine gf_0_11 (n3 _) dX0_canTake_8 ?_
      refine J_alen (v := 3) 5 (n14 _) rfl rfl rfl dX0_canTake_11 ?_
      refine J_icmp_ge 83 (by decide) dX0_canTake_12 (fun c9 => ?_) (fun c9 => ?_)
      · exact absurd c9 (by decide)
      refine J_aload_n 0 rfl dX0_canTake_15 ?_
      refine gf_0_11 (n3 _) dX0_canTake_16 ?_
      refine J_iload 4 rfl dX0_canTake_19 ?_
      refine J_aald 1 5 (n14 _) rfl rfl (vp_in_iff.mpr (by decide)) (by decide) dX0_canTake_21 ?_
      rcases opt_split (R 14 0 1) with o10 | ⟨a11, o10⟩
      · skip
        refine J_topv (v' := .null) (by first | rfl | (rw [o10]; rfl)) ?_
        refine J_astoreN (lv' := [(0, .ref (ka S 3 0)), (1, .ref a), (2, .int v), (3, .int 0), (4, .int 1), (5, .null), (6, .int 1)]) (by decide) rfl dX0_canTake_22 ?_
        refine J_aloadN 5 rfl dX0_canTake_24 ?_
        refine J_ifnullN 38 (by decide) dX0_canTake_26 ?_
        refine J_iconst (v := 1) (by decide) dX0_canTake_38 ?_
        refine J_goto 43 (by decide) dX0_canTake_39 ?_
        refine J_istore (lv' := [(0, .ref (ka S 3 0)), (1, .ref a), (2, .int v), (3, .int 0), (4, .int 1), (5, .null), (6, .int 1)]) (by decide) rfl dX0_canTake_43 ?_
        refine J_iload 6 rfl dX0_canTake_45 ?_
        refine J_if_ne 61 (by decide) dX0_canTake_47 (fun c12 => ?_) (fun c12 => ?_)
        rotate_left
        · exact absurd c12 (by decide)
        refine J_iload 6 rfl dX0_canTake_61 ?_
        refine J_if_eq 77 (by decide) dX0_canTake_63 (fun c13 => ?_) (fun c13 => ?_)
        · exact absurd c13 (by decide)
        refine J_aload_n 1 rfl dX0_canTake_66 ?_
        refine J_iload 4 rfl dX0_canTake_67 ?_
        refine cv_0_29 (cells' := 0) (slots' := 0) dX0_canTake_69 (c_X5_mayHave (by assumption)) (n20 (by assumption)) ⟨by decide, by decide⟩ rfl rfl (by decide) (by decide) (Nat.le_of_ble_eq_true rfl) (fun _ _ r14 => ?_) (fun _ _ h => h.elim)
        obtain ⟨rfl, rfl⟩ := r14
        refine J_eq (st' := [.int (kb (mayF I a 1))]) rfl rfl rfl ?_
        refine J_topv (v' := .int 1) (by first | rfl | (rw [may_1]; rfl)) ?_
        refine J_if_eq 77 (by decide) dX0_canTake_72 (fun c15 => ?_) (fun c15 => ?_)
        · exact absurd c15 (by decide)
        refine J_iconst (v := 1) (by decide) dX0_canTake_75 ?_
        refine J_istore_n (lv' := [(0, .ref (ka S 3 0)), (1, .ref a), (2, .int v), (3, .int 1), (4, .int 1), (5, .null), (6, .int 1)]) (by decide) rfl dX0_canTake_76 ?_
        refine J_iinc (v := 2) (lv' := [(0, .ref (ka S 3 0)), (1, .ref a), (2, .int v), (3, .int 1), (4, .int 2), (5, .null), (6, .int 1)]) 4 rfl (by decide) (by decide) rfl dX0_canTake_77 ?_
        refine J_goto 5 (by decide) dX0_canTake_80 ?_
        refine J_iload 4 rfl dX0_canTake_5 ?_
        refine J_aload_n 0 rfl dX0_canTake_7 ?_
        refine gf_0_11 (n3 _) dX0_canTake_8 ?_
        refine J_alen (v := 3) 5 (n14 _) rfl rfl rfl dX0_canTake_11 ?_
        refine J_icmp_ge 83 (by decide) dX0_canTake_12 (fun c17 => ?_) (fun c17 => ?_)
        · exact absurd c17 (by decide)
        refine J_aload_n 0 rfl dX0_canTake_15 ?_
        refine gf_0_11 (n3 _) dX0_canTake_16 ?_
        refine J_iload 4 rfl dX0_canTake_19 ?_
        refine J_aald 2 5 (n14 _) rfl rfl (vp_in_iff.mpr (by decide)) (by decide) dX0_canTake_21 ?_
        rcases opt_split (R 14 0 2) with o18 | ⟨a19, o18⟩
        · skip
          refine J_topv (v' := .null) (by first | rfl | (rw [o18]; rfl)) ?_
          refine J_astoreN (lv' := [(0, .ref (ka S 3 0)), (1, .ref a), (2, .int v), (3, .int 1), (4, .int 2), (5, .null), (6, .int 1)]) (by decide) rfl dX0_canTake_22 ?_
          refine J_aloadN 5 rfl dX0_canTake_24 ?_
          refine J_ifnullN 38 (by decide) dX0_canTake_26 ?_
          refine J_iconst (v := 1) (by decide) dX0_canTake_38 ?_
          refine J_goto 43 (by decide) dX0_canTake_39 ?_
          refine J_istore (lv' := [(0, .ref (ka S 3 0)), (1, .ref a), (2, .int v), (3, .int 1), (4, .int 2), (5, .null), (6, .int 1)]) (by decide) rfl dX0_canTake_43 ?_
          refine J_iload 6 rfl dX0_canTake_45 ?_
          refine J_if_ne 61 (by decide) dX0_canTake_47 (fun c20 => ?_) (fun c20 => ?_)
          rotate_left
          · exact absurd c20 (by decide)
          refine J_iload 6 rfl dX0_canTake_61 ?_
          refine J_if_eq 77 (by decide) dX0_canTake_63 (fun c21 => ?_) (fun c21 => ?_)
          · exact absurd c21 (by decide)
          refine J_aload_n 1 rfl dX0_canTake_66 ?_
          refine J_iload 4 rfl dX0_canTake_67 ?_
          refine cv_0_29 (cells' := 0) (slots' := 0) dX0_canTake_69 (c_X5_mayHave (by assumption)) (n20 (by assumption)) ⟨by decide, by decide⟩ rfl rfl (by decide) (by decide) (Nat.le_of_ble_eq_true rfl) (fun _ _ r22 => ?_) (fun _ _ h => h.elim)
          obtain ⟨rfl, rfl⟩ := r22
          refine J_eq (st' := [.int (kb (mayF I a 2))]) rfl rfl rfl ?_
          refine J_topv (v' := .int 1) (by first | rfl | (rw [may_2]; rfl)) ?_
          refine J_if_eq 77 (by decide) dX0_canTake_72 (fun c23 => ?_) (fun c23 => ?_)
          · exact absurd c23 (by decide)
          refine J_iconst (v := 1) (by decide) dX0_canTake_75 ?_
          refine J_istore_n (lv' := [(0, .ref (ka S 3 0)), (1, .ref a), (2, .int v), (3, .int 1), (4, .int 2), (5, .null), (6, .int 1)]) (by decide) rfl dX0_canTake_76 ?_
          refine J_iinc (v := 3) (lv' := [(0, .ref (ka S 3 0)), (1, .ref a), (2, .int v), (3, .int 1), (4, .int 3), (5, .null), (6, .int 1)]) 4 rfl (by decide) (by decide) rfl dX0_canTake_77 ?_
          refine J_goto 5 (by decide) dX0_canTake_80 ?_
          refine J_iload 4 rfl dX0_canTake_5 ?_
          refine J_aload_n 0 rfl dX0_canTake_7 ?_
          refine gf_0_11 (n3 _) dX0_canTake_8 ?_
          refine J_alen (v := 3) 5 (n14 _) rfl rfl rfl dX0_canTake_11 ?_
          refine J_icmp_ge 83 (by decide) dX0_canTake_12 (fun c25 => ?_) (fun c25 => ?_)
          rotate_left
          · exact absurd (by decide) c25
          refine J_iload_n 2 rfl dX0_canTake_83 ?_
          refine J_if_eq 95 (by decide) dX0_canTake_84 (fun c26 => ?_) (fun c26 => ?_)
          · skip
            refine J_iconst (v := 0) (by decide) dX0_canTake_95 ?_
            exact J_ireturn rfl (by first | rfl | assumption | simp [kb_nar]) dX0_canTake_96 (⟨by (try simp only [kb_0, kb_1, kb_n0, kb_n1, decide_eq_false_iff_not, decide_eq_true_eq, ne_eq, Classical.not_not] at *); first | (simp [kb, kb_0, kb_1, vr_n, vr_s, takF, may_1, may_2, havF_n, havF_s, shF_none, shF_some, *]; done) | (simp [kb, kb_0, kb_1, vr_n, vr_s, takF, may_1, may_2, havF_n, havF_s, shF_none, shF_some, *] <;> grind), rfl⟩) (by omega) (by omega)
          · skip
            refine J_iload_n 3 rfl dX0_canTake_87 ?_
            refine J_if_eq 95 (by decide) dX0_canTake_88 (fun c27 => ?_) (fun c27 => ?_)
            · exact absurd c27 (by decide)
            refine J_iconst (v := 1) (by decide) dX0_canTake_91 ?_
            refine J_goto 96 (by decide) dX0_canTake_92 ?_
            exact J_ireturn rfl (by first | rfl | assumption | simp [kb_nar]) dX0_canTake_96 (⟨by (try simp only [kb_0, kb_1, kb_n0, kb_n1, decide_eq_false_iff_not, decide_eq_true_eq, ne_eq, Classical.not_not] at *); first | (simp [kb, kb_0, kb_1, vr_n, vr_s, takF, may_1, may_2, havF_n, havF_s, shF_none, shF_some, *]; done) | (simp [kb, kb_0, kb_1, vr_n, vr_s, takF, may_1, may_2, havF_n, havF_s, shF_none, shF_some, *] <;> grind), rfl⟩) (by omega) (by omega)
        · skip
          have ma19 : a19 ∈ LP := hsp _ _ (by decide) o18
          refine J_topv (v' := .ref a19) (by first | rfl | (rw [o18]; rfl)) ?_
          refine J_astore (lv' := [(0, .ref (ka S 3 0)), (1, .ref a), (2, .int v), (3, .int 1), (4, .int 2), (5, .ref a19), (6, .int 1)]) (by decide) rfl dX0_canTake_22 ?_
          refine J_aload 5 rfl dX0_canTake_24 ?_
          refine J_ifnull dX0_canTake_26 ?_
          refine J_aload_n 1 rfl dX0_canTake_29 ?_
          refine J_aload 5 rfl dX0_canTake_30 ?_
          refine cv_0_25 (cells' := 0) (slots' := 0) dX0_canTake_32 (c_X5_canBreakInOn (by assumption) (by assumption)) (n20 (by assumption)) ⟨by decide, by decide⟩ rfl rfl (by decide) (by decide) (Nat.le_of_ble_eq_true rfl) (fun _ _ r28 => ?_) (fun _ _ h => h.elim)
          obtain ⟨rfl, rfl⟩ := r28
          refine J_eq (st' := [.int (kb (brkF I a a19))]) rfl rfl rfl ?_
          refine J_if_eq 42 (by decide) dX0_canTake_35 (fun c29 => ?_) (fun c29 => ?_)
          · skip
            refine J_iconst (v := 0) (by decide) dX0_canTake_42 ?_
            refine J_istore (lv' := [(0, .ref (ka S 3 0)), (1, .ref a), (2, .int v), (3, .int 1), (4, .int 2), (5, .ref a19), (6, .int 0)]) (by decide) rfl dX0_canTake_43 ?_
            refine J_iload 6 rfl dX0_canTake_45 ?_
            refine J_if_ne 61 (by decide) dX0_canTake_47 (fun c30 => ?_) (fun c30 => ?_)
            · exact absurd (by decide) c30
            refine J_aload 5 rfl dX0_canTake_50 ?_
            refine J_iload_n 2 rfl dX0_canTake_52 ?_
            refine cv_0_21 (cells' := 0) (slots' := 0) dX0_canTake_53 (c_X5_sharesStationWith (by assumption)) (n20 (by assumption)) ⟨by decide, by decide⟩ rfl rfl (by decide) (by decide) (Nat.le_of_ble_eq_true rfl) (fun _ _ r31 => ?_) (fun _ _ h => h.elim)
            obtain ⟨rfl, rfl⟩ := r31
            refine J_eq (st' := [.int (kb (shrF I a19 v))]) rfl rfl rfl ?_
            refine J_if_eq 61 (by decide) dX0_canTake_56 (fun c32 => ?_) (fun c32 => ?_)
            · skip
              refine J_iload 6 rfl dX0_canTake_61 ?_
              refine J_if_eq 77 (by decide) dX0_canTake_63 (fun c33 => ?_) (fun c33 => ?_)
              rotate_left
              · exact absurd (by decide) c33
              refine J_iinc (v := 3) (lv' := [(0, .ref (ka S 3 0)), (1, .ref a), (2, .int v), (3, .int 1), (4, .int 3), (5, .ref a19), (6, .int 0)]) 4 rfl (by decide) (by decide) rfl dX0_canTake_77 ?_
              refine J_goto 5 (by decide) dX0_canTake_80 ?_
              refine J_iload 4 rfl dX0_canTake_5 ?_
              refine J_aload_n 0 rfl dX0_canTake_7 ?_
              refine gf_0_11 (n3 _) dX0_canTake_8 ?_
              refine J_alen (v := 3) 5 (n14 _) rfl rfl rfl dX0_canTake_11 ?_
              refine J_icmp_ge 83 (by decide) dX0_canTake_12 (fun c35 => ?_) (fun c35 => ?_)
              rotate_left
              · exact absurd (by decide) c35
              refine J_iload_n 2 rfl dX0_canTake_83 ?_
              refine J_if_eq 95 (by decide) dX0_canTake_84 (fun c36 => ?_) (fun c36 => ?_)
              · skip
                refine J_iconst (v := 0) (by decide) dX0_canTake_95 ?_
                exact J_ireturn rfl (by first | rfl | assumption | simp [kb_nar]) dX0_canTake_96 (⟨by (try simp only [kb_0, kb_1, kb_n0, kb_n1, decide_eq_false_iff_not, decide_eq_true_eq, ne_eq, Classical.not_not] at *); first | (simp [kb, kb_0, kb_1, vr_n, vr_s, takF, may_1, may_2, havF_n, havF_s, shF_none, shF_some, *]; done) | (simp [kb, kb_0, kb_1, vr_n, vr_s, takF, may_1, may_2, havF_n, havF_s, shF_none, shF_some, *] <;> grind), rfl⟩) (by omega) (by omega)
              · skip
                refine J_iload_n 3 rfl dX0_canTake_87 ?_
                refine J_if_eq 95 (by decide) dX0_canTake_88 (fun c37 => ?_) (fun c37 => ?_)
                · exact absurd c37 (by decide)
                refine J_iconst (v := 1) (by decide) dX0_canTake_91 ?_
                refine J_goto 96 (by decide) dX0_canTake_92 ?_
                exact J_ireturn rfl (by first | rfl | assumption | simp [kb_nar]) dX0_canTake_96 (⟨by (try simp only [kb_0, kb_1, kb_n0, kb_n1, decide_eq_false_iff_not, decide_eq_true_eq, ne_eq, Classical.not_not] at *); first | (simp [kb, kb_0, kb_1, vr_n, vr_s, takF, may_1, may_2, havF_n, havF_s, shF_none, shF_some, *]; done) | (simp [kb, kb_0, kb_1, vr_n, vr_s, takF, may_1, may_2, havF_n, havF_s, shF_none, shF_some, *] <;> grind), rfl⟩) (by omega) (by omega)
            · skip
              refine J_iconst (v := 0) (by decide) dX0_canTake_59 ?_
              exact J_ireturn rfl (by first | rfl | assumption | simp [kb_nar]) dX0_canTake_60 (⟨by (try simp only [kb_0, kb_1, kb_n0, kb_n1, decide_eq_false_iff_not, decide_eq_true_eq, ne_eq, Classical.not_not] at *); first | (simp [kb, kb_0, kb_1, vr_n, vr_s, takF, may_1, may_2, havF_n, havF_s, shF_none, shF_some, *]; done) | (simp [kb, kb_0, kb_1, vr_n, vr_s, takF, may_1, may_2, havF_n, havF_s, shF_none, shF_some, *] <;> grind), rfl⟩) (by omega) (by omega)
          · skip
            refine J_iconst (v := 1) (by decide) dX0_canTake_38 ?_
            refine J_goto 43 (by decide) dX0_canTake_39 ?_
            refine J_istore (lv' := [(0, .ref (ka S 3 0)), (1, .ref a), (2, .int v), (3, .int 1), (4, .int 2), (5, .ref a19), (6, .int 1)]) (by decide) rfl dX0_canTake_43 ?_
            refine J_iload 6 rfl dX0_canTake_45 ?_
            refine J_if_ne 61 (by decide) dX0_canTake_47 (fun c38 => ?_) (fun c38 => ?_)
            rotate_left
            · exact absurd c38 (by decide)
            refine J_iload 6 rfl dX0_canTake_61 ?_
            refine J_if_eq 77 (by decide) dX0_canTake_63 (fun c39 => ?_) (fun c39 => ?_)
            · exact absurd c39 (by decide)
            refine J_aload_n 1 rfl dX0_canTake_66 ?_
            refine J_iload 4 rfl dX0_canTake_67 ?_
            refine cv_0_29 (cells' := 0) (slots' := 0) dX0_canTake_69 (c_X5_mayHave (by assumption)) (n20 (by assumption)) ⟨by decide, by decide⟩ rfl rfl (by decide) (by decide) (Nat.le_of_ble_eq_true rfl) (fun _ _ r40 => ?_) (fun _ _ h => h.elim)
            obtain ⟨rfl, rfl⟩ := r40
            refine J_eq (st' := [.int (kb (mayF I a 2))]) rfl rfl rfl ?_
            refine J_topv (v' := .int 1) (by first | rfl | (rw [may_2]; rfl)) ?_
            refine J_if_eq 77 (by decide) dX0_canTake_72 (fun c41 => ?_) (fun c41 => ?_)
            · exact absurd c41 (by decide)
            refine J_iconst (v := 1) (by decide) dX0_canTake_75 ?_
            refine J_istore_n (lv' := [(0, .ref (ka S 3 0)), (1, .ref a), (2, .int v), (3, .int 1), (4, .int 2), (5, .ref a19), (6, .int 1)]) (by decide) rfl dX0_canTake_76 ?_
            refine J_iinc (v := 3) (lv' := [(0, .ref (ka S 3 0)), (1, .ref a), (2, .int v), (3, .int 1), (4, .int 3), (5, .ref a19), (6, .int 1)]) 4 rfl (by decide) (by decide) rfl dX0_canTake_77 ?_
            refine J_goto 5 (by decide) dX0_canTake_80 ?_
            refine J_iload 4 rfl dX0_canTake_5 ?_
            refine J_aload_n 0 rfl dX0_canTake_7 ?_
            refine gf_0_11 (n3 _) dX0_canTake_8 ?_
            refine J_alen (v := 3) 5 (n14 _) rfl rfl rfl dX0_canTake_11 ?_
            refine J_icmp_ge 83 (by decide) dX0_canTake_12 (fun c43 => ?_) (fun c43 => ?_)
            rotate_left
            · exact absurd (by decide) c43
            refine J_iload_n 2 rfl dX0_canTake_83 ?_
            refine J_if_eq 95 (by decide) dX0_canTake_84 (fun c44 => ?_) (fun c44 => ?_)
            · skip
              refine J_iconst (v := 0) (by decide) dX0_canTake_95 ?_
              exact J_ireturn rfl (by first | rfl | assumption | simp [kb_nar]) dX0_canTake_96 (⟨by (try simp only [kb_0, kb_1, kb_n0, kb_n1, decide_eq_false_iff_not, decide_eq_true_eq, ne_eq, Classical.not_not] at *); first | (simp [kb, kb_0, kb_1, vr_n, vr_s, takF, may_1, may_2, havF_n, havF_s, shF_none, shF_some, *]; done) | (simp [kb, kb_0, kb_1, vr_n, vr_s, takF, may_1, may_2, havF_n, havF_s, shF_none, shF_some, *] <;> grind), rfl⟩) (by omega) (by omega)
            · skip
              refine J_iload_n 3 rfl dX0_canTake_87 ?_
              refine J_if_eq 95 (by decide) dX0_canTake_88 (fun c45 => ?_) (fun c45 => ?_)
              · exact absurd c45 (by decide)
              refine J_iconst (v := 1) (by decide) dX0_canTake_91 ?_
              refine J_goto 96 (by decide) dX0_canTake_92 ?_
              exact J_ireturn rfl (by first | rfl | assumption | simp [kb_nar]) dX0_canTake_96 (⟨by (try simp only [kb_0, kb_1, kb_n0, kb_n1, decide_eq_false_iff_not, decide_eq_true_eq, ne_eq, Classical.not_not] at *); first | (simp [kb, kb_0, kb_1, vr_n, vr_s, takF, may_1, may_2, havF_n, havF_s, shF_none, shF_some, *]; done) | (simp [kb, kb_0, kb_1, vr_n, vr_s, takF, may_1, may_2, havF_n, havF_s, shF_none, shF_some, *] <;> grind), rfl⟩) (by omega) (by omega)
      · skip
        have ma11 : a11 ∈ LP := hsp _ _ (by decide) o10
        refine J_topv (v' := .ref a11) (by first | rfl | (rw [o10]; rfl)) ?_
        refine J_astore (lv' := [(0, .ref (ka S 3 0)), (1, .ref a), (2, .int v), (3, .int 0), (4, .int 1), (5, .ref a11), (6, .int 1)]) (by decide) rfl dX0_canTake_22 ?_
        refine J_aload 5 rfl dX0_canTake_24 ?_
        refine J_ifnull dX0_canTake_26 ?_
        refine J_aload_n 1 rfl dX0_canTake_29 ?_
        refine J_aload 5 rfl dX0_canTake_30 ?_
        refine cv_0_25 (cells' := 0) (slots' := 0) dX0_canTake_32 (c_X5_canBreakInOn (by assumption) (by assumption)) (n20 (by assumption)) ⟨by decide, by decide⟩ rfl rfl (by decide) (by decide) (Nat.le_of_ble_eq_true rfl) (fun _ _ r46 => ?_) (fun _ _ h => h.elim)
        obtain ⟨rfl, rfl⟩ := r46
        refine J_eq (st' := [.int (kb (brkF I a a11))]) rfl rfl rfl ?_
        refine J_if_eq 42 (by decide) dX0_canTake_35 (fun c47 => ?_) (fun c47 => ?_)
        · skip
          refine J_iconst (v := 0) (by decide) dX0_canTake_42 ?_
          refine J_istore (lv' := [(0, .ref (ka S 3 0)), (1, .ref a), (2, .int v), (3, .int 0), (4, .int 1), (5, .ref a11), (6, .int 0)]) (by decide) rfl dX0_canTake_43 ?_
          refine J_iload 6 rfl dX0_canTake_45 ?_
          refine J_if_ne 61 (by decide) dX0_canTake_47 (fun c48 => ?_) (fun c48 => ?_)
          · exact absurd (by decide) c48
          refine J_aload 5 rfl dX0_canTake_50 ?_
          refine J_iload_n 2 rfl dX0_canTake_52 ?_
          refine cv_0_21 (cells' := 0) (slots' := 0) dX0_canTake_53 (c_X5_sharesStationWith (by assumption)) (n20 (by assumption)) ⟨by decide, by decide⟩ rfl rfl (by decide) (by decide) (Nat.le_of_ble_eq_true rfl) (fun _ _ r49 => ?_) (fun _ _ h => h.elim)
          obtain ⟨rfl, rfl⟩ := r49
          refine J_eq (st' := [.int (kb (shrF I a11 v))]) rfl rfl rfl ?_
          refine J_if_eq 61 (by decide) dX0_canTake_56 (fun c50 => ?_) (fun c50 => ?_)
          · skip
            refine J_iload 6 rfl dX0_canTake_61 ?_
            refine J_if_eq 77 (by decide) dX0_canTake_63 (fun c51 => ?_) (fun c51 => ?_)
            rotate_left
            · exact absurd (by decide) c51
            refine J_iinc (v := 2) (lv' := [(0, .ref (ka S 3 0)), (1, .ref a), (2, .int v), (3, .int 0), (4, .int 2), (5, .ref a11), (6, .int 0)]) 4 rfl (by decide) (by decide) rfl dX0_canTake_77 ?_
            refine J_goto 5 (by decide) dX0_canTake_80 ?_
            refine J_iload 4 rfl dX0_canTake_5 ?_
            refine J_aload_n 0 rfl dX0_canTake_7 ?_
            refine gf_0_11 (n3 _) dX0_canTake_8 ?_
            refine J_alen (v := 3) 5 (n14 _) rfl rfl rfl dX0_canTake_11 ?_
            refine J_icmp_ge 83 (by decide) dX0_canTake_12 (fun c53 => ?_) (fun c53 => ?_)
            · exact absurd c53 (by decide)
            refine J_aload_n 0 rfl dX0_canTake_15 ?_
            refine gf_0_11 (n3 _) dX0_canTake_16 ?_
            refine J_iload 4 rfl dX0_canTake_19 ?_
            refine J_aald 2 5 (n14 _) rfl rfl (vp_in_iff.mpr (by decide)) (by decide) dX0_canTake_21 ?_
            rcases opt_split (R 14 0 2) with o54 | ⟨a55, o54⟩
            · skip
              refine J_topv (v' := .null) (by first | rfl | (rw [o54]; rfl)) ?_
              refine J_astoreN (lv' := [(0, .ref (ka S 3 0)), (1, .ref a), (2, .int v), (3, .int 0), (4, .int 2), (5, .null), (6, .int 0)]) (by decide) rfl dX0_canTake_22 ?_
              refine J_aloadN 5 rfl dX0_canTake_24 ?_
              refine J_ifnullN 38 (by decide) dX0_canTake_26 ?_
              refine J_iconst (v := 1) (by decide) dX0_canTake_38 ?_
              refine J_goto 43 (by decide) dX0_canTake_39 ?_
              refine J_istore (lv' := [(0, .ref (ka S 3 0)), (1, .ref a), (2, .int v), (3, .int 0), (4, .int 2), (5, .null), (6, .int 1)]) (by decide) rfl dX0_canTake_43 ?_
              refine J_iload 6 rfl dX0_canTake_45 ?_
              refine J_if_ne 61 (by decide) dX0_canTake_47 (fun c56 => ?_) (fun c56 => ?_)
              rotate_left
              · exact absurd c56 (by decide)
              refine J_iload 6 rfl dX0_canTake_61 ?_
              refine J_if_eq 77 (by decide) dX0_canTake_63 (fun c57 => ?_) (fun c57 => ?_)
              · exact absurd c57 (by decide)
              refine J_aload_n 1 rfl dX0_canTake_66 ?_
              refine J_iload 4 rfl dX0_canTake_67 ?_
              refine cv_0_29 (cells' := 0) (slots' := 0) dX0_canTake_69 (c_X5_mayHave (by assumption)) (n20 (by assumption)) ⟨by decide, by decide⟩ rfl rfl (by decide) (by decide) (Nat.le_of_ble_eq_true rfl) (fun _ _ r58 => ?_) (fun _ _ h => h.elim)
              obtain ⟨rfl, rfl⟩ := r58
              refine J_eq (st' := [.int (kb (mayF I a 2))]) rfl rfl rfl ?_
              refine J_topv (v' := .int 1) (by first | rfl | (rw [may_2]; rfl)) ?_
              refine J_if_eq 77 (by decide) dX0_canTake_72 (fun c59 => ?_) (fun c59 => ?_)
              · exact absurd c59 (by decide)
              refine J_iconst (v := 1) (by decide) dX0_canTake_75 ?_
              refine J_istore_n (lv' := [(0, .ref (ka S 3 0)), (1, .ref a), (2, .int v), (3, .int 1), (4, .int 2), (5, .null), (6, .int 1)]) (by decide) rfl dX0_canTake_76 ?_
              refine J_iinc (v := 3) (lv' := [(0, .ref (ka S 3 0)), (1, .ref a), (2, .int v), (3, .int 1), (4, .int 3), (5, .null), (6, .int 1)]) 4 rfl (by decide) (by decide) rfl dX0_canTake_77 ?_
              refine J_goto 5 (by decide) dX0_canTake_80 ?_
              refine J_iload 4 rfl dX0_canTake_5 ?_
              refine J_aload_n 0 rfl dX0_canTake_7 ?_
              refine gf_0_11 (n3 _) dX0_canTake_8 ?_
              refine J_alen (v := 3) 5 (n14 _) rfl rfl rfl dX0_canTake_11 ?_
              refine J_icmp_ge 83 (by decide) dX0_canTake_12 (fun c61 => ?_) (fun c61 => ?_)
              rotate_left
              · exact absurd (by decide) c61
              refine J_iload_n 2 rfl dX0_canTake_83 ?_
              refine J_if_eq 95 (by decide) dX0_canTake_84 (fun c62 => ?_) (fun c62 => ?_)
              · skip
                refine J_iconst (v := 0) (by decide) dX0_canTake_95 ?_
                exact J_ireturn rfl (by first | rfl | assumption | simp [kb_nar]) dX0_canTake_96 (⟨by (try simp only [kb_0, kb_1, kb_n0, kb_n1, decide_eq_false_iff_not, decide_eq_true_eq, ne_eq, Classical.not_not] at *); first | (simp [kb, kb_0, kb_1, vr_n, vr_s, takF, may_1, may_2, havF_n, havF_s, shF_none, shF_some, *]; done) | (simp [kb, kb_0, kb_1, vr_n, vr_s, takF, may_1, may_2, havF_n, havF_s, shF_none, shF_some, *] <;> grind), rfl⟩) (by omega) (by omega)
              · skip
                refine J_iload_n 3 rfl dX0_canTake_87 ?_
                refine J_if_eq 95 (by decide) dX0_canTake_88 (fun c63 => ?_) (fun c63 => ?_)
                · exact absurd c63 (by decide)
                refine J_iconst (v := 1) (by decide) dX0_canTake_91 ?_
                refine J_goto 96 (by decide) dX0_canTake_92 ?_
                exact J_ireturn rfl (by first | rfl | assumption | simp [kb_nar]) dX0_canTake_96 (⟨by (try simp only [kb_0, kb_1, kb_n0, kb_n1, decide_eq_false_iff_not, decide_eq_true_eq, ne_eq, Classical.not_not] at *); first | (simp [kb, kb_0, kb_1, vr_n, vr_s, takF, may_1, may_2, havF_n, havF_s, shF_none, shF_some, *]; done) | (simp [kb, kb_0, kb_1, vr_n, vr_s, takF, may_1, may_2, havF_n, havF_s, shF_none, shF_some, *] <;> grind), rfl⟩) (by omega) (by omega)
            · skip
              have ma55 : a55 ∈ LP := hsp _ _ (by decide) o54
              refine J_topv (v' := .ref a55) (by first | rfl | (rw [o54]; rfl)) ?_
              refine J_astore (lv' := [(0, .ref (ka S 3 0)), (1, .ref a), (2, .int v), (3, .int 0), (4, .int 2), (5, .ref a55), (6, .int 0)]) (by decide) rfl dX0_canTake_22 ?_
              refine J_aload 5 rfl dX0_canTake_24 ?_
              refine J_ifnull dX0_canTake_26 ?_
              refine J_aload_n 1 rfl dX0_canTake_29 ?_
              refine J_aload 5 rfl dX0_canTake_30 ?_
              refine cv_0_25 (cells' := 0) (slots' := 0) dX0_canTake_32 (c_X5_canBreakInOn (by assumption) (by assumption)) (n20 (by assumption)) ⟨by decide, by decide⟩ rfl rfl (by decide) (by decide) (Nat.le_of_ble_eq_true rfl) (fun _ _ r64 => ?_) (fun _ _ h => h.elim)
              obtain ⟨rfl, rfl⟩ := r64
              refine J_eq (st' := [.int (kb (brkF I a a55))]) rfl rfl rfl ?_
              refine J_if_eq 42 (by decide) dX0_canTake_35 (fun c65 => ?_) (fun c65 => ?_)
              · skip
                refine J_iconst (v := 0) (by decide) dX0_canTake_42 ?_
                refine J_istore (lv' := [(0, .ref (ka S 3 0)), (1, .ref a), (2, .int v), (3, .int 0), (4, .int 2), (5, .ref a55), (6, .int 0)]) (by decide) rfl dX0_canTake_43 ?_
                refine J_iload 6 rfl dX0_canTake_45 ?_
                refine J_if_ne 61 (by decide) dX0_canTake_47 (fun c66 => ?_) (fun c66 => ?_)
                · exact absurd (by decide) c66
                refine J_aload 5 rfl dX0_canTake_50 ?_
                refine J_iload_n 2 rfl dX0_canTake_52 ?_
                refine cv_0_21 (cells' := 0) (slots' := 0) dX0_canTake_53 (c_X5_sharesStationWith (by assumption)) (n20 (by assumption)) ⟨by decide, by decide⟩ rfl rfl (by decide) (by decide) (Nat.le_of_ble_eq_true rfl) (fun _ _ r67 => ?_) (fun _ _ h => h.elim)
                obtain ⟨rfl, rfl⟩ := r67
                refine J_eq (st' := [.int (kb (shrF I a55 v))]) rfl rfl rfl ?_
                refine J_if_eq 61 (by decide) dX0_canTake_56 (fun c68 => ?_) (fun c68 => ?_)
                · skip
                  refine J_iload 6 rfl dX0_canTake_61 ?_
                  refine J_if_eq 77 (by decide) dX0_canTake_63 (fun c69 => ?_) (fun c69 => ?_)
                  rotate_left
                  · exact absurd (by decide) c69
                  refine J_iinc (v := 3) (lv' := [(0, .ref (ka S 3 0)), (1, .ref a), (2, .int v), (3, .int 0), (4, .int 3), (5, .ref a55), (6, .int 0)]) 4 rfl (by decide) (by decide) rfl dX0_canTake_77 ?_
                  refine J_goto 5 (by decide) dX0_canTake_80 ?_
                  refine J_iload 4 rfl dX0_canTake_5 ?_
                  refine J_aload_n 0 rfl dX0_canTake_7 ?_
                  refine gf_0_11 (n3 _) dX0_canTake_8 ?_
                  refine J_alen (v := 3) 5 (n14 _) rfl rfl rfl dX0_canTake_11 ?_
                  refine J_icmp_ge 83 (by decide) dX0_canTake_12 (fun c71 => ?_) (fun c71 => ?_)
                  rotate_left
                  · exact absurd (by decide) c71
                  refine J_iload_n 2 rfl dX0_canTake_83 ?_
                  refine J_if_eq 95 (by decide) dX0_canTake_84 (fun c72 => ?_) (fun c72 => ?_)
                  · skip
                    refine J_iconst (v := 0) (by decide) dX0_canTake_95 ?_
                    exact J_ireturn rfl (by first | rfl | assumption | simp [kb_nar]) dX0_canTake_96 (⟨by (try simp only [kb_0, kb_1, kb_n0, kb_n1, decide_eq_false_iff_not, decide_eq_true_eq, ne_eq, Classical.not_not] at *); first | (simp [kb, kb_0, kb_1, vr_n, vr_s, takF, may_1, may_2, havF_n, havF_s, shF_none, shF_some, *]; done) | (simp [kb, kb_0, kb_1, vr_n, vr_s, takF, may_1, may_2, havF_n, havF_s, shF_none, shF_some, *] <;> grind), rfl⟩) (by omega) (by omega)
                  · skip
                    refine J_iload_n 3 rfl dX0_canTake_87 ?_
                    refine J_if_eq 95 (by decide) dX0_canTake_88 (fun c73 => ?_) (fun c73 => ?_)
                    rotate_left
                    · exact absurd (by decide) c73
                    refine J_iconst (v := 0) (by decide) dX0_canTake_95 ?_
                    exact J_ireturn rfl (by first | rfl | assumption | simp [kb_nar]) dX0_canTake_96 (⟨by (try simp only [kb_0, kb_1, kb_n0, kb_n1, decide_eq_false_iff_not, decide_eq_true_eq, ne_eq, Classical.not_not] at *); first | (simp [kb, kb_0, kb_1, vr_n, vr_s, takF, may_1, may_2, havF_n, havF_s, shF_none, shF_some, *]; done) | (simp [kb, kb_0, kb_1, vr_n, vr_s, takF, may_1, may_2, havF_n, havF_s, shF_none, shF_some, *] <;> grind), rfl⟩) (by omega) (by omega)
                · skip
                  refine J_iconst (v := 0) (by decide) dX0_canTake_59 ?_
                  exact J_ireturn rfl (by first | rfl | assumption | simp [kb_nar]) dX0_canTake_60 (⟨by (try simp only [kb_0, kb_1, kb_n0, kb_n1, decide_eq_false_iff_not, decide_eq_true_eq, ne_eq, Classical.not_not] at *); first | (simp [kb, kb_0, kb_1, vr_n, vr_s, takF, may_1, may_2, havF_n, havF_s, shF_none, shF_some, *]; done) | (simp [kb, kb_0, kb_1, vr_n, vr_s, takF, may_1, may_2, havF_n, havF_s, shF_none, shF_some, *] <;> grind), rfl⟩) (by omega) (by omega)
              · skip
                refine J_iconst (v := 1) (by decide) dX0_canTake_38 ?_
                refine J_goto 43 (by decide) dX0_canTake_39 ?_
                refine J_istore (lv' := [(0, .ref (ka S 3 0)), (1, .ref a), (2, .int v), (3, .int 0), (4, .int 2), (5, .ref a55), (6, .int 1)]) (by decide) rfl dX0_canTake_43 ?_
                refine J_iload 6 rfl dX0_canTake_45 ?_
                refine J_if_ne 61 (by decide) dX0_canTake_47 (fun c74 => ?_) (fun c74 => ?_)
                rotate_left
                · exact absurd c74 (by decide)
                refine J_iload 6 rfl dX0_canTake_61 ?_
                refine J_if_eq 77 (by decide) dX0_canTake_63 (fun c75 => ?_) (fun c75 => ?_)
                · exact absurd c75 (by decide)
                refine J_aload_n 1 rfl dX0_canTake_66 ?_
                refine J_iload 4 rfl dX0_canTake_67 ?_
                refine cv_0_29 (cells' := 0) (slots' := 0) dX0_canTake_69 (c_X5_mayHave (by assumption)) (n20 (by assumption)) ⟨by decide, by decide⟩ rfl rfl (by decide) (by decide) (Nat.le_of_ble_eq_true rfl) (fun _ _ r76 => ?_) (fun _ _ h => h.elim)
                obtain ⟨rfl, rfl⟩ := r76
                refine J_eq (st' := [.int (kb (mayF I a 2))]) rfl rfl rfl ?_
                refine J_topv (v' := .int 1) (by first | rfl | (rw [may_2]; rfl)) ?_
                refine J_if_eq 77 (by decide) dX0_canTake_72 (fun c77 => ?_) (fun c77 => ?_)
                · exact absurd c77 (by decide)
                refine J_iconst (v := 1) (by decide) dX0_canTake_75 ?_
                refine J_istore_n (lv' := [(0, .ref (ka S 3 0)), (1, .ref a), (2, .int v), (3, .int 1), (4, .int 2), (5, .ref a55), (6, .int 1)]) (by decide) rfl dX0_canTake_76 ?_
                refine J_iinc (v := 3) (lv' := [(0, .ref (ka S 3 0)), (1, .ref a), (2, .int v), (3, .int 1), (4, .int 3), (5, .ref a55), (6, .int 1)]) 4 rfl (by decide) (by decide) rfl dX0_canTake_77 ?_
                refine J_goto 5 (by decide) dX0_canTake_80 ?_
                refine J_iload 4 rfl dX0_canTake_5 ?_
                refine J_aload_n 0 rfl dX0_canTake_7 ?_
                refine gf_0_11 (n3 _) dX0_canTake_8 ?_
                refine J_alen (v := 3) 5 (n14 _) rfl rfl rfl dX0_canTake_11 ?_
                refine J_icmp_ge 83 (by decide) dX0_canTake_12 (fun c79 => ?_) (fun c79 => ?_)
                rotate_left
                · exact absurd (by decide) c79
                refine J_iload_n 2 rfl dX0_canTake_83 ?_
                refine J_if_eq 95 (by decide) dX0_canTake_84 (fun c80 => ?_) (fun c80 => ?_)
                · skip
                  refine J_iconst (v := 0) (by decide) dX0_canTake_95 ?_
                  exact J_ireturn rfl (by first | rfl | assumption | simp [kb_nar]) dX0_canTake_96 (⟨by (try simp only [kb_0, kb_1, kb_n0, kb_n1, decide_eq_false_iff_not, decide_eq_true_eq, ne_eq, Classical.not_not] at *); first | (simp [kb, kb_0, kb_1, vr_n, vr_s, takF, may_1, may_2, havF_n, havF_s, shF_none, shF_some, *]; done) | (simp [kb, kb_0, kb_1, vr_n, vr_s, takF, may_1, may_2, havF_n, havF_s, shF_none, shF_some, *] <;> grind), rfl⟩) (by omega) (by omega)
                · skip
                  refine J_iload_n 3 rfl dX0_canTake_87 ?_
                  refine J_if_eq 95 (by decide) dX0_canTake_88 (fun c81 => ?_) (fun c81 => ?_)
                  · exact absurd c81 (by decide)
                  refine J_iconst (v := 1) (by decide) dX0_canTake_91 ?_
                  refine J_goto 96 (by decide) dX0_canTake_92 ?_
                  exact J_ireturn rfl (by first | rfl | assumption | simp [kb_nar]) dX0_canTake_96 (⟨by (try simp only [kb_0, kb_1, kb_n0, kb_n1, decide_eq_false_iff_not, decide_eq_true_eq, ne_eq, Classical.not_not] at *); first | (simp [kb, kb_0, kb_1, vr_n, vr_s, takF, may_1, may_2, havF_n, havF_s, shF_none, shF_some, *]; done) | (simp [kb, kb_0, kb_1, vr_n, vr_s, takF, may_1, may_2, havF_n, havF_s, shF_none, shF_some, *] <;> grind), rfl⟩) (by omega) (by omega)
          · skip
            refine J_iconst (v := 0) (by decide) dX0_canTake_59 ?_
            exact J_ireturn rfl (by first | rfl | assumption | simp [kb_nar]) dX0_canTake_60 (⟨by (try simp only [kb_0, kb_1, kb_n0, kb_n1, decide_eq_false_iff_not, decide_eq_true_eq, ne_eq, Classical.not_not] at *); first | (simp [kb, kb_0, kb_1, vr_n, vr_s, takF, may_1, may_2, havF_n, havF_s, shF_none, shF_some, *]; done) | (simp [kb, kb_0, kb_1, vr_n, vr_s, takF, may_1, may_2, havF_n, havF_s, shF_none, shF_some, *] <;> grind), rfl⟩) (by omega) (by omega)
        · skip
          refine J_iconst (v := 1) (by decide) dX0_canTake_38 ?_
          refine J_goto 43 (by decide) dX0_canTake_39 ?_
          refine J_istore (lv' := [(0, .ref (ka S 3 0)), (1, .ref a), (2, .int v), (3, .int 0), (4, .int 1), (5, .ref a11), (6, .int 1)]) (by decide) rfl dX0_canTake_43 ?_
          refine J_iload 6 rfl dX0_canTake_45 ?_
          refine J_if_ne 61 (by decide) dX0_canTake_47 (fun c82 => ?_) (fun c82 => ?_)
          rotate_left
          · exact absurd c82 (by decide)
          refine J_iload 6 rfl dX0_canTake_61 ?_
          refine J_if_eq 77 (by decide) dX0_canTake_63 (fun c83 => ?_) (fun c83 => ?_)
          · exact absurd c83 (by decide)
          refine J_aload_n 1 rfl dX0_canTake_66 ?_
          refine J_iload 4 rfl dX0_canTake_67 ?_
          refine cv_0_29 (cells' := 0) (slots' := 0) dX0_canTake_69 (c_X5_mayHave (by assumption)) (n20 (by assumption)) ⟨by decide, by decide⟩ rfl rfl (by decide) (by decide) (Nat.le_of_ble_eq_true rfl) (fun _ _ r84 => ?_) (fun _ _ h => h.elim)
          obtain ⟨rfl, rfl⟩ := r84
          refine J_eq (st' := [.int (kb (mayF I a 1))]) rfl rfl rfl ?_
          refine J_topv (v' := .int 1) (by first | rfl | (rw [may_1]; rfl)) ?_
          refine J_if_eq 77 (by decide) dX0_canTake_72 (fun c85 => ?_) (fun c85 => ?_)
          · exact absurd c85 (by decide)
          refine J_iconst (v := 1) (by decide) dX0_canTake_75 ?_
          refine J_istore_n (lv' := [(0, .ref (ka S 3 0)), (1, .ref a), (2, .int v), (3, .int 1), (4, .int 1), (5, .ref a11), (6, .int 1)]) (by decide) rfl dX0_canTake_76 ?_
          refine J_iinc (v := 2) (lv' := [(0, .ref (ka S 3 0)), (1, .ref a), (2, .int v), (3, .int 1), (4, .int 2), (5, .ref a11), (6, .int 1)]) 4 rfl (by decide) (by decide) rfl dX0_canTake_77 ?_
          refine J_goto 5 (by decide) dX0_canTake_80 ?_
          refine J_iload 4 rfl dX0_canTake_5 ?_
          refine J_aload_n 0 rfl dX0_canTake_7 ?_
          refine gf_0_11 (n3 _) dX0_canTake_8 ?_
          refine J_alen (v := 3) 5 (n14 _) rfl rfl rfl dX0_canTake_11 ?_
          refine J_icmp_ge 83 (by decide) dX0_canTake_12 (fun c87 => ?_) (fun c87 => ?_)
          · exact absurd c87 (by decide)
          refine J_aload_n 0 rfl dX0_canTake_15 ?_
          refine gf_0_11 (n3 _) dX0_canTake_16 ?_
          refine J_iload 4 rfl dX0_canTake_19 ?_
          refine J_aald 2 5 (n14 _) rfl rfl (vp_in_iff.mpr (by decide)) (by decide) dX0_canTake_21 ?_
          rcases opt_split (R 14 0 2) with o88 | ⟨a89, o88⟩
          · skip
            refine J_topv (v' := .null) (by first | rfl | (rw [o88]; rfl)) ?_
            refine J_astoreN (lv' := [(0, .ref (ka S 3 0)), (1, .ref a), (2, .int v), (3, .int 1), (4, .int 2), (5, .null), (6, .int 1)]) (by decide) rfl dX0_canTake_22 ?_
            refine J_aloadN 5 rfl dX0_canTake_24 ?_
            refine J_ifnullN 38 (by decide) dX0_canTake_26 ?_
            refine J_iconst (v := 1) (by decide) dX0_canTake_38 ?_
            refine J_goto 43 (by decide) dX0_canTake_39 ?_
            refine J_istore (lv' := [(0, .ref (ka S 3 0)), (1, .ref a), (2, .int v), (3, .int 1), (4, .int 2), (5, .null), (6, .int 1)]) (by decide) rfl dX0_canTake_43 ?_
            refine J_iload 6 rfl dX0_canTake_45 ?_
            refine J_if_ne 61 (by decide) dX0_canTake_47 (fun c90 => ?_) (fun c90 => ?_)
            rotate_left
            · exact absurd c90 (by decide)
            refine J_iload 6 rfl dX0_canTake_61 ?_
            refine J_if_eq 77 (by decide) dX0_canTake_63 (fun c91 => ?_) (fun c91 => ?_)
            · exact absurd c91 (by decide)
            refine J_aload_n 1 rfl dX0_canTake_66 ?_
            refine J_iload 4 rfl dX0_canTake_67 ?_
            refine cv_0_29 (cells' := 0) (slots' := 0) dX0_canTake_69 (c_X5_mayHave (by assumption)) (n20 (by assumption)) ⟨by decide, by decide⟩ rfl rfl (by decide) (by decide) (Nat.le_of_ble_eq_true rfl) (fun _ _ r92 => ?_) (fun _ _ h => h.elim)
            obtain ⟨rfl, rfl⟩ := r92
            refine J_eq (st' := [.int (kb (mayF I a 2))]) rfl rfl rfl ?_
            refine J_topv (v' := .int 1) (by first | rfl | (rw [may_2]; rfl)) ?_
            refine J_if_eq 77 (by decide) dX0_canTake_72 (fun c93 => ?_) (fun c93 => ?_)
            · exact absurd c93 (by decide)
            refine J_iconst (v := 1) (by decide) dX0_canTake_75 ?_
            refine J_istore_n (lv' := [(0, .ref (ka S 3 0)), (1, .ref a), (2, .int v), (3, .int 1), (4, .int 2), (5, .null), (6, .int 1)]) (by decide) rfl dX0_canTake_76 ?_
            refine J_iinc (v := 3) (lv' := [(0, .ref (ka S 3 0)), (1, .ref a), (2, .int v), (3, .int 1), (4, .int 3), (5, .null), (6, .int 1)]) 4 rfl (by decide) (by decide) rfl dX0_canTake_77 ?_
            refine J_goto 5 (by decide) dX0_canTake_80 ?_
            refine J_iload 4 rfl dX0_canTake_5 ?_
            refine J_aload_n 0 rfl dX0_canTake_7 ?_
            refine gf_0_11 (n3 _) dX0_canTake_8 ?_
            refine J_alen (v := 3) 5 (n14 _) rfl rfl rfl dX0_canTake_11 ?_
            refine J_icmp_ge 83 (by decide) dX0_canTake_12 (fun c95 => ?_) (fun c95 => ?_)
            rotate_left
            · exact absurd (by decide) c95
            refine J_iload_n 2 rfl dX0_canTake_83 ?_
            refine J_if_eq 95 (by decide) dX0_canTake_84 (fun c96 => ?_) (fun c96 => ?_)
            · skip
              refine J_iconst (v := 0) (by decide) dX0_canTake_95 ?_
              exact J_ireturn rfl (by first | rfl | assumption | simp [kb_nar]) dX0_canTake_96 (⟨by (try simp only [kb_0, kb_1, kb_n0, kb_n1, decide_eq_false_iff_not, decide_eq_true_eq, ne_eq, Classical.not_not] at *); first | (simp [kb, kb_0, kb_1, vr_n, vr_s, takF, may_1, may_2, havF_n, havF_s, shF_none, shF_some, *]; done) | (simp [kb, kb_0, kb_1, vr_n, vr_s, takF, may_1, may_2, havF_n, havF_s, shF_none, shF_some, *] <;> grind), rfl⟩) (by omega) (by omega)
            · skip
              refine J_iload_n 3 rfl dX0_canTake_87 ?_
              refine J_if_eq 95 (by decide) dX0_canTake_88 (fun c97 => ?_) (fun c97 => ?_)
              · exact absurd c97 (by decide)
              refine J_iconst (v := 1) (by decide) dX0_canTake_91 ?_
              refine J_goto 96 (by decide) dX0_canTake_92 ?_
              exact J_ireturn rfl (by first | rfl | assumption | simp [kb_nar]) dX0_canTake_96 (⟨by (try simp only [kb_0, kb_1, kb_n0, kb_n1, decide_eq_false_iff_not, decide_eq_true_eq, ne_eq, Classical.not_not] at *); first | (simp [kb, kb_0, kb_1, vr_n, vr_s, takF, may_1, may_2, havF_n, havF_s, shF_none, shF_some, *]; done) | (simp [kb, kb_0, kb_1, vr_n, vr_s, takF, may_1, may_2, havF_n, havF_s, shF_none, shF_some, *] <;> grind), rfl⟩) (by omega) (by omega)
          · skip
            have ma89 : a89 ∈ LP := hsp _ _ (by decide) o88
            refine J_topv (v' := .ref a89) (by first | rfl | (rw [o88]; rfl)) ?_
            refine J_astore (lv' := [(0, .ref (ka S 3 0)), (1, .ref a), (2, .int v), (3, .int 1), (4, .int 2), (5, .ref a89), (6, .int 1)]) (by decide) rfl dX0_canTake_22 ?_
            refine J_aload 5 rfl dX0_canTake_24 ?_
            refine J_ifnull dX0_canTake_26 ?_
            refine J_aload_n 1 rfl dX0_canTake_29 ?_
            refine J_aload 5 rfl dX0_canTake_30 ?_
            refine cv_0_25 (cells' := 0) (slots' := 0) dX0_canTake_32 (c_X5_canBreakInOn (by assumption) (by assumption)) (n20 (by assumption)) ⟨by decide, by decide⟩ rfl rfl (by decide) (by decide) (Nat.le_of_ble_eq_true rfl) (fun _ _ r98 => ?_) (fun _ _ h => h.elim)
            obtain ⟨rfl, rfl⟩ := r98
            refine J_eq (st' := [.int (kb (brkF I a a89))]) rfl rfl rfl ?_
            refine J_if_eq 42 (by decide) dX0_canTake_35 (fun c99 => ?_) (fun c99 => ?_)
            · skip
              refine J_iconst (v := 0) (by decide) dX0_canTake_42 ?_
              refine J_istore (lv' := [(0, .ref (ka S 3 0)), (1, .ref a), (2, .int v), (3, .int 1), (4, .int 2), (5, .ref a89), (6, .int 0)]) (by decide) rfl dX0_canTake_43 ?_
              refine J_iload 6 rfl dX0_canTake_45 ?_
              refine J_if_ne 61 (by decide) dX0_canTake_47 (fun c100 => ?_) (fun c100 => ?_)
              · exact absurd (by decide) c100
              refine J_aload 5 rfl dX0_canTake_50 ?_
              refine J_iload_n 2 rfl dX0_canTake_52 ?_
              refine cv_0_21 (cells' := 0) (slots' := 0) dX0_canTake_53 (c_X5_sharesStationWith (by assumption)) (n20 (by assumption)) ⟨by decide, by decide⟩ rfl rfl (by decide) (by decide) (Nat.le_of_ble_eq_true rfl) (fun _ _ r101 => ?_) (fun _ _ h => h.elim)
              obtain ⟨rfl, rfl⟩ := r101
              refine J_eq (st' := [.int (kb (shrF I a89 v))]) rfl rfl rfl ?_
              refine J_if_eq 61 (by decide) dX0_canTake_56 (fun c102 => ?_) (fun c102 => ?_)
              · skip
                refine J_iload 6 rfl dX0_canTake_61 ?_
                refine J_if_eq 77 (by decide) dX0_canTake_63 (fun c103 => ?_) (fun c103 => ?_)
                rotate_left
                · exact absurd (by decide) c103
                refine J_iinc (v := 3) (lv' := [(0, .ref (ka S 3 0)), (1, .ref a), (2, .int v), (3, .int 1), (4, .int 3), (5, .ref a89), (6, .int 0)]) 4 rfl (by decide) (by decide) rfl dX0_canTake_77 ?_
                refine J_goto 5 (by decide) dX0_canTake_80 ?_
                refine J_iload 4 rfl dX0_canTake_5 ?_
                refine J_aload_n 0 rfl dX0_canTake_7 ?_
                refine gf_0_11 (n3 _) dX0_canTake_8 ?_
                refine J_alen (v := 3) 5 (n14 _) rfl rfl rfl dX0_canTake_11 ?_
                refine J_icmp_ge 83 (by decide) dX0_canTake_12 (fun c105 => ?_) (fun c105 => ?_)
                rotate_left
                · exact absurd (by decide) c105
                refine J_iload_n 2 rfl dX0_canTake_83 ?_
                refine J_if_eq 95 (by decide) dX0_canTake_84 (fun c106 => ?_) (fun c106 => ?_)
                · skip
                  refine J_iconst (v := 0) (by decide) dX0_canTake_95 ?_
                  exact J_ireturn rfl (by first | rfl | assumption | simp [kb_nar]) dX0_canTake_96 (⟨by (try simp only [kb_0, kb_1, kb_n0, kb_n1, decide_eq_false_iff_not, decide_eq_true_eq, ne_eq, Classical.not_not] at *); first | (simp [kb, kb_0, kb_1, vr_n, vr_s, takF, may_1, may_2, havF_n, havF_s, shF_none, shF_some, *]; done) | (simp [kb, kb_0, kb_1, vr_n, vr_s, takF, may_1, may_2, havF_n, havF_s, shF_none, shF_some, *] <;> grind), rfl⟩) (by omega) (by omega)
                · skip
                  refine J_iload_n 3 rfl dX0_canTake_87 ?_
                  refine J_if_eq 95 (by decide) dX0_canTake_88 (fun c107 => ?_) (fun c107 => ?_)
                  · exact absurd c107 (by decide)
                  refine J_iconst (v := 1) (by decide) dX0_canTake_91 ?_
                  refine J_goto 96 (by decide) dX0_canTake_92 ?_
                  exact J_ireturn rfl (by first | rfl | assumption | simp [kb_nar]) dX0_canTake_96 (⟨by (try simp only [kb_0, kb_1, kb_n0, kb_n1, decide_eq_false_iff_not, decide_eq_true_eq, ne_eq, Classical.not_not] at *); first | (simp [kb, kb_0, kb_1, vr_n, vr_s, takF, may_1, may_2, havF_n, havF_s, shF_none, shF_some, *]; done) | (simp [kb, kb_0, kb_1, vr_n, vr_s, takF, may_1, may_2, havF_n, havF_s, shF_none, shF_some, *] <;> grind), rfl⟩) (by omega) (by omega)
              · skip
                refine J_iconst (v := 0) (by decide) dX0_canTake_59 ?_
                exact J_ireturn rfl (by first | rfl | assumption | simp [kb_nar]) dX0_canTake_60 (⟨by (try simp only [kb_0, kb_1, kb_n0, kb_n1, decide_eq_false_iff_not, decide_eq_true_eq, ne_eq, Classical.not_not] at *); first | (simp [kb, kb_0, kb_1, vr_n, vr_s, takF, may_1, may_2, havF_n, havF_s, shF_none, shF_some, *]; done) | (simp [kb, kb_0, kb_1, vr_n, vr_s, takF, may_1, may_2, havF_n, havF_s, shF_none, shF_some, *] <;> grind), rfl⟩) (by omega) (by omega)
            · skip
              refine J_iconst (v := 1) (by decide) dX0_canTake_38 ?_
              refine J_goto 43 (by decide) dX0_canTake_39 ?_
              refine J_istore (lv' := [(0, .ref (ka S 3 0)), (1, .ref a), (2, .int v), (3, .int 1), (4, .int 2), (5, .ref a89), (6, .int 1)]) (by decide) rfl dX0_canTake_43 ?_
              refine J_iload 6 rfl dX0_canTake_45 ?_
              refine J_if_ne 61 (by decide) dX0_canTake_47 (fun c108 => ?_) (fun c108 => ?_)
              rotate_left
              · exact absurd c108 (by decide)
              refine J_iload 6 rfl dX0_canTake_61 ?_
              refine J_if_eq 77 (by decide) dX0_canTake_63 (fun c109 => ?_) (fun c109 => ?_)
              · exact absurd c109 (by decide)
              refine J_aload_n 1 rfl dX0_canTake_66 ?_
              refine J_iload 4 rfl dX0_canTake_67 ?_
              refine cv_0_29 (cells' := 0) (slots' := 0) dX0_canTake_69 (c_X5_mayHave (by assumption)) (n20 (by assumption)) ⟨by decide, by decide⟩ rfl rfl (by decide) (by decide) (Nat.le_of_ble_eq_true rfl) (fun _ _ r110 => ?_) (fun _ _ h => h.elim)
              obtain ⟨rfl, rfl⟩ := r110
              refine J_eq (st' := [.int (kb (mayF I a 2))]) rfl rfl rfl ?_
              refine J_topv (v' := .int 1) (by first | rfl | (rw [may_2]; rfl)) ?_
              refine J_if_eq 77 (by decide) dX0_canTake_72 (fun c111 => ?_) (fun c111 => ?_)
              · exact absurd c111 (by decide)
              refine J_iconst (v := 1) (by decide) dX0_canTake_75 ?_
              refine J_istore_n (lv' := [(0, .ref (ka S 3 0)), (1, .ref a), (2, .int v), (3, .int 1), (4, .int 2), (5, .ref a89), (6, .int 1)]) (by decide) rfl dX0_canTake_76 ?_
              refine J_iinc (v := 3) (lv' := [(0, .ref (ka S 3 0)), (1, .ref a), (2, .int v), (3, .int 1), (4, .int 3), (5, .ref a89), (6, .int 1)]) 4 rfl (by decide) (by decide) rfl dX0_canTake_77 ?_
              refine J_goto 5 (by decide) dX0_canTake_80 ?_
              refine J_iload 4 rfl dX0_canTake_5 ?_
              refine J_aload_n 0 rfl dX0_canTake_7 ?_
              refine gf_0_11 (n3 _) dX0_canTake_8 ?_
              refine J_alen (v := 3) 5 (n14 _) rfl rfl rfl dX0_canTake_11 ?_
              refine J_icmp_ge 83 (by decide) dX0_canTake_12 (fun c113 => ?_) (fun c113 => ?_)
              rotate_left
              · exact absurd (by decide) c113
              refine J_iload_n 2 rfl dX0_canTake_83 ?_
              refine J_if_eq 95 (by decide) dX0_canTake_84 (fun c114 => ?_) (fun c114 => ?_)
              · skip
                refine J_iconst (v := 0) (by decide) dX0_canTake_95 ?_
                exact J_ireturn rfl (by first | rfl | assumption | simp [kb_nar]) dX0_canTake_96 (⟨by (try simp only [kb_0, kb_1, kb_n0, kb_n1, decide_eq_false_iff_not, decide_eq_true_eq, ne_eq, Classical.not_not] at *); first | (simp [kb, kb_0, kb_1, vr_n, vr_s, takF, may_1, may_2, havF_n, havF_s, shF_none, shF_some, *]; done) | (simp [kb, kb_0, kb_1, vr_n, vr_s, takF, may_1, may_2, havF_n, havF_s, shF_none, shF_some, *] <;> grind), rfl⟩) (by omega) (by omega)
              · skip
                refine J_iload_n 3 rfl dX0_canTake_87 ?_
                refine J_if_eq 95 (by decide) dX0_canTake_88 (fun c115 => ?_) (fun c115 => ?_)
                · exact absurd c115 (by decide)
                refine J_iconst (v := 1) (by decide) dX0_canTake_91 ?_
                refine J_goto 96 (by decide) dX0_canTake_92 ?_
                exact J_ireturn rfl (by first | rfl | assumption | simp [kb_nar]) dX0_canTake_96 (⟨by (try simp only [kb_0, kb_1, kb_n0, kb_n1, decide_eq_false_iff_not, decide_eq_true_eq, ne_eq, Classical.not_not] at *); first | (simp [kb, kb_0, kb_1, vr_n, vr_s, takF, may_1, may_2, havF_n, havF_s, shF_none, shF_some, *]; done) | (simp [kb, kb_0, kb_1, vr_n, vr_s, takF, may_1, may_2, havF_n, havF_s, shF_none, shF_some, *] <;> grind), rfl⟩) (by omega) (by omega)
    · skip
      refine J_iconst (v := 1) (by decide) dX0_canTake_75 ?_
      refine J_istore_n (lv' := [(0, .ref (ka S 3 0)), (1, .ref a), (2, .int v), (3, .int 1), (4, .int 0), (5, .null), (6, .int 1)]) (by decide) rfl dX0_canTake_76 ?_
      refine J_iinc (v := 1) (lv' := [(0, .ref (ka S 3 0)), (1, .ref a), (2, .int v), (3, .int 1), (4, .int 1), (5, .null), (6, .int 1)]) 4 rfl (by decide) (by decide) rfl dX0_canTake_77 ?_
      refine J_goto 5 (by decide) dX0_canTake_80 ?_
      refine J_iload 4 rfl dX0_canTake_5 ?_
      refine J_aload_n 0 rfl dX0_canTake_7 ?_
      refine gf_0_11 (n3 _) dX0_canTake_8 ?_
      refine J_alen (v := 3) 5 (n14 _) rfl rfl rfl dX0_canTake_11 ?_
      refine J_icmp_ge 83 (by decide) dX0_canTake_12 (fun c117 => ?_) (fun c117 => ?_)
      · exact absurd c117 (by decide)
      refine J_aload_n 0 rfl dX0_canTake_15 ?_
      refine gf_0_11 (n3 _) dX0_canTake_16 ?_
      refine J_iload 4 rfl dX0_canTake_19 ?_
      refine J_aald 1 5 (n14 _) rfl rfl (vp_in_iff.mpr (by decide)) (by decide) dX0_canTake_21 ?_
      rcases opt_split (R 14 0 1) with o118 | ⟨a119, o118⟩
      · skip
        refine J_topv (v' := .null) (by first | rfl | (rw [o118]; rfl)) ?_
        refine J_astoreN (lv' := [(0, .ref (ka S 3 0)), (1, .ref a), (2, .int v), (3, .int 1), (4, .int 1), (5, .null), (6, .int 1)]) (by decide) rfl dX0_canTake_22 ?_
        refine J_aloadN 5 rfl dX0_canTake_24 ?_
        refine J_ifnullN 38 (by decide) dX0_canTake_26 ?_
        refine J_iconst (v := 1) (by decide) dX0_canTake_38 ?_
        refine J_goto 43 (by decide) dX0_canTake_39 ?_
        refine J_istore (lv' := [(0, .ref (ka S 3 0)), (1, .ref a), (2, .int v), (3, .int 1), (4, .int 1), (5, .null), (6, .int 1)]) (by decide) rfl dX0_canTake_43 ?_
        refine J_iload 6 rfl dX0_canTake_45 ?_
        refine J_if_ne 61 (by decide) dX0_canTake_47 (fun c120 => ?_) (fun c120 => ?_)
        rotate_left
        · exact absurd c120 (by decide)
        refine J_iload 6 rfl dX0_canTake_61 ?_
        refine J_if_eq 77 (by decide) dX0_canTake_63 (fun c121 => ?_) (fun c121 => ?_)
        · exact absurd c121 (by decide)
        refine J_aload_n 1 rfl dX0_canTake_66 ?_
        refine J_iload 4 rfl dX0_canTake_67 ?_
        refine cv_0_29 (cells' := 0) (slots' := 0) dX0_canTake_69 (c_X5_mayHave (by assumption)) (n20 (by assumption)) ⟨by decide, by decide⟩ rfl rfl (by decide) (by decide) (Nat.le_of_ble_eq_true rfl) (fun _ _ r122 => ?_) (fun _ _ h => h.elim)
        obtain ⟨rfl, rfl⟩ := r122
        refine J_eq (st' := [.int (kb (mayF I a 1))]) rfl rfl rfl ?_
        refine J_topv (v' := .int 1) (by first | rfl | (rw [may_1]; rfl)) ?_
        refine J_if_eq 77 (by decide) dX0_canTake_72 (fun c123 => ?_) (fun c123 => ?_)
        · exact absurd c123 (by decide)
        refine J_iconst (v := 1) (by decide) dX0_canTake_75 ?_
        refine J_istore_n (lv' := [(0, .ref (ka S 3 0)), (1, .ref a), (2, .int v), (3, .int 1), (4, .int 1), (5, .null), (6, .int 1)]) (by decide) rfl dX0_canTake_76 ?_
        refine J_iinc (v := 2) (lv' := [(0, .ref (ka S 3 0)), (1, .ref a), (2, .int v), (3, .int 1), (4, .int 2), (5, .null), (6, .int 1)]) 4 rfl (by decide) (by decide) rfl dX0_canTake_77 ?_
        refine J_goto 5 (by decide) dX0_canTake_80 ?_
        refine J_iload 4 rfl dX0_canTake_5 ?_
        refine J_aload_n 0 rfl dX0_canTake_7 ?_
        refine gf_0_11 (n3 _) dX0_canTake_8 ?_
        refine J_alen (v := 3) 5 (n14 _) rfl rfl rfl dX0_canTake_11 ?_
        refine J_icmp_ge 83 (by decide) dX0_canTake_12 (fun c125 => ?_) (fun c125 => ?_)
        · exact absurd c125 (by decide)
        refine J_aload_n 0 rfl dX0_canTake_15 ?_
        refine gf_0_11 (n3 _) dX0_canTake_16 ?_
        refine J_iload 4 rfl dX0_canTake_19 ?_
        refine J_aald 2 5 (n14 _) rfl rfl (vp_in_iff.mpr (by decide)) (by decide) dX0_canTake_21 ?_
        rcases opt_split (R 14 0 2) with o126 | ⟨a127, o126⟩
        · skip
          refine J_topv (v' := .null) (by first | rfl | (rw [o126]; rfl)) ?_
          refine J_astoreN (lv' := [(0, .ref (ka S 3 0)), (1, .ref a), (2, .int v), (3, .int 1), (4, .int 2), (5, .null), (6, .int 1)]) (by decide) rfl dX0_canTake_22 ?_
          refine J_aloadN 5 rfl dX0_canTake_24 ?_
          refine J_ifnullN 38 (by decide) dX0_canTake_26 ?_
          refine J_iconst (v := 1) (by decide) dX0_canTake_38 ?_
          refine J_goto 43 (by decide) dX0_canTake_39 ?_
          refine J_istore (lv' := [(0, .ref (ka S 3 0)), (1, .ref a), (2, .int v), (3, .int 1), (4, .int 2), (5, .null), (6, .int 1)]) (by decide) rfl dX0_canTake_43 ?_
          refine J_iload 6 rfl dX0_canTake_45 ?_
          refine J_if_ne 61 (by decide) dX0_canTake_47 (fun c128 => ?_) (fun c128 => ?_)
          rotate_left
          · exact absurd c128 (by decide)
          refine J_iload 6 rfl dX0_canTake_61 ?_
          refine J_if_eq 77 (by decide) dX0_canTake_63 (fun c129 => ?_) (fun c129 => ?_)
          · exact absurd c129 (by decide)
          refine J_aload_n 1 rfl dX0_canTake_66 ?_
          refine J_iload 4 rfl dX0_canTake_67 ?_
          refine cv_0_29 (cells' := 0) (slots' := 0) dX0_canTake_69 (c_X5_mayHave (by assumption)) (n20 (by assumption)) ⟨by decide, by decide⟩ rfl rfl (by decide) (by decide) (Nat.le_of_ble_eq_true rfl) (fun _ _ r130 => ?_) (fun _ _ h => h.elim)
          obtain ⟨rfl, rfl⟩ := r130
          refine J_eq (st' := [.int (kb (mayF I a 2))]) rfl rfl rfl ?_
          refine J_topv (v' := .int 1) (by first | rfl | (rw [may_2]; rfl)) ?_
          refine J_if_eq 77 (by decide) dX0_canTake_72 (fun c131 => ?_) (fun c131 => ?_)
          · exact absurd c131 (by decide)
          refine J_iconst (v := 1) (by decide) dX0_canTake_75 ?_
          refine J_istore_n (lv' := [(0, .ref (ka S 3 0)), (1, .ref a), (2, .int v), (3, .int 1), (4, .int 2), (5, .null), (6, .int 1)]) (by decide) rfl dX0_canTake_76 ?_
          refine J_iinc (v := 3) (lv' := [(0, .ref (ka S 3 0)), (1, .ref a), (2, .int v), (3, .int 1), (4, .int 3), (5, .null), (6, .int 1)]) 4 rfl (by decide) (by decide) rfl dX0_canTake_77 ?_
          refine J_goto 5 (by decide) dX0_canTake_80 ?_
          refine J_iload 4 rfl dX0_canTake_5 ?_
          refine J_aload_n 0 rfl dX0_canTake_7 ?_
          refine gf_0_11 (n3 _) dX0_canTake_8 ?_
          refine J_alen (v := 3) 5 (n14 _) rfl rfl rfl dX0_canTake_11 ?_
          refine J_icmp_ge 83 (by decide) dX0_canTake_12 (fun c133 => ?_) (fun c133 => ?_)
          rotate_left
          · exact absurd (by decide) c133
          refine J_iload_n 2 rfl dX0_canTake_83 ?_
          refine J_if_eq 95 (by decide) dX0_canTake_84 (fun c134 => ?_) (fun c134 => ?_)
          · skip
            refine J_iconst (v := 0) (by decide) dX0_canTake_95 ?_
            exact J_ireturn rfl (by first | rfl | assumption | simp [kb_nar]) dX0_canTake_96 (⟨by (try simp only [kb_0, kb_1, kb_n0, kb_n1, decide_eq_false_iff_not, decide_eq_true_eq, ne_eq, Classical.not_not] at *); first | (simp [kb, kb_0, kb_1, vr_n, vr_s, takF, may_1, may_2, havF_n, havF_s, shF_none, shF_some, *]; done) | (simp [kb, kb_0, kb_1, vr_n, vr_s, takF, may_1, may_2, havF_n, havF_s, shF_none, shF_some, *] <;> grind), rfl⟩) (by omega) (by omega)
          · skip
            refine J_iload_n 3 rfl dX0_canTake_87 ?_
            refine J_if_eq 95 (by decide) dX0_canTake_88 (fun c135 => ?_) (fun c135 => ?_)
            · exact absurd c135 (by decide)
            refine J_iconst (v := 1) (by decide) dX0_canTake_91 ?_
            refine J_goto 96 (by decide) dX0_canTake_92 ?_
            exact J_ireturn rfl (by first | rfl | assumption | simp [kb_nar]) dX0_canTake_96 (⟨by (try simp only [kb_0, kb_1, kb_n0, kb_n1, decide_eq_false_iff_not, decide_eq_true_eq, ne_eq, Classical.not_not] at *); first | (simp [kb, kb_0, kb_1, vr_n, vr_s, takF, may_1, may_2, havF_n, havF_s, shF_none, shF_some, *]; done) | (simp [kb, kb_0, kb_1, vr_n, vr_s, takF, may_1, may_2, havF_n, havF_s, shF_none, shF_some, *] <;> grind), rfl⟩) (by omega) (by omega)
        · skip
          have ma127 : a127 ∈ LP := hsp _ _ (by decide) o126
          refine J_topv (v' := .ref a127) (by first | rfl | (rw [o126]; rfl)) ?_
          refine J_astore (lv' := [(0, .ref (ka S 3 0)), (1, .ref a), (2, .int v), (3, .int 1), (4, .int 2), (5, .ref a127), (6, .int 1)]) (by decide) rfl dX0_canTake_22 ?_
          refine J_aload 5 rfl dX0_canTake_24 ?_
          refine J_ifnull dX0_canTake_26 ?_
          refine J_aload_n 1 rfl dX0_canTake_29 ?_
          refine J_aload 5 rfl dX0_canTake_30 ?_
          refine cv_0_25 (cells' := 0) (slots' := 0) dX0_canTake_32 (c_X5_canBreakInOn (by assumption) (by assumption)) (n20 (by assumption)) ⟨by decide, by decide⟩ rfl rfl (by decide) (by decide) (Nat.le_of_ble_eq_true rfl) (fun _ _ r136 => ?_) (fun _ _ h => h.elim)
          obtain ⟨rfl, rfl⟩ := r136
          refine J_eq (st' := [.int (kb (brkF I a a127))]) rfl rfl rfl ?_
          refine J_if_eq 42 (by decide) dX0_canTake_35 (fun c137 => ?_) (fun c137 => ?_)
          · skip
            refine J_iconst (v := 0) (by decide) dX0_canTake_42 ?_
            refine J_istore (lv' := [(0, .ref (ka S 3 0)), (1, .ref a), (2, .int v), (3, .int 1), (4, .int 2), (5, .ref a127), (6, .int 0)]) (by decide) rfl dX0_canTake_43 ?_
            refine J_iload 6 rfl dX0_canTake_45 ?_
            refine J_if_ne 61 (by decide) dX0_canTake_47 (fun c138 => ?_) (fun c138 => ?_)
            · exact absurd (by decide) c138
            refine J_aload 5 rfl dX0_canTake_50 ?_
            refine J_iload_n 2 rfl dX0_canTake_52 ?_
            refine cv_0_21 (cells' := 0) (slots' := 0) dX0_canTake_53 (c_X5_sharesStationWith (by assumption)) (n20 (by assumption)) ⟨by decide, by decide⟩ rfl rfl (by decide) (by decide) (Nat.le_of_ble_eq_true rfl) (fun _ _ r139 => ?_) (fun _ _ h => h.elim)
            obtain ⟨rfl, rfl⟩ := r139
            refine J_eq (st' := [.int (kb (shrF I a127 v))]) rfl rfl rfl ?_
            refine J_if_eq 61 (by decide) dX0_canTake_56 (fun c140 => ?_) (fun c140 => ?_)
            · skip
              refine J_iload 6 rfl dX0_canTake_61 ?_
              refine J_if_eq 77 (by decide) dX0_canTake_63 (fun c141 => ?_) (fun c141 => ?_)
              rotate_left
              · exact absurd (by decide) c141
              refine J_iinc (v := 3) (lv' := [(0, .ref (ka S 3 0)), (1, .ref a), (2, .int v), (3, .int 1), (4, .int 3), (5, .ref a127), (6, .int 0)]) 4 rfl (by decide) (by decide) rfl dX0_canTake_77 ?_
              refine J_goto 5 (by decide) dX0_canTake_80 ?_
              refine J_iload 4 rfl dX0_canTake_5 ?_
              refine J_aload_n 0 rfl dX0_canTake_7 ?_
              refine gf_0_11 (n3 _) dX0_canTake_8 ?_
              refine J_alen (v := 3) 5 (n14 _) rfl rfl rfl dX0_canTake_11 ?_
              refine J_icmp_ge 83 (by decide) dX0_canTake_12 (fun c143 => ?_) (fun c143 => ?_)
              rotate_left
              · exact absurd (by decide) c143
              refine J_iload_n 2 rfl dX0_canTake_83 ?_
              refine J_if_eq 95 (by decide) dX0_canTake_84 (fun c144 => ?_) (fun c144 => ?_)
              · skip
                refine J_iconst (v := 0) (by decide) dX0_canTake_95 ?_
                exact J_ireturn rfl (by first | rfl | assumption | simp [kb_nar]) dX0_canTake_96 (⟨by (try simp only [kb_0, kb_1, kb_n0, kb_n1, decide_eq_false_iff_not, decide_eq_true_eq, ne_eq, Classical.not_not] at *); first | (simp [kb, kb_0, kb_1, vr_n, vr_s, takF, may_1, may_2, havF_n, havF_s, shF_none, shF_some, *]; done) | (simp [kb, kb_0, kb_1, vr_n, vr_s, takF, may_1, may_2, havF_n, havF_s, shF_none, shF_some, *] <;> grind), rfl⟩) (by omega) (by omega)
              · skip
                refine J_iload_n 3 rfl dX0_canTake_87 ?_
                refine J_if_eq 95 (by decide) dX0_canTake_88 (fun c145 => ?_) (fun c145 => ?_)
                · exact absurd c145 (by decide)
                refine J_iconst (v := 1) (by decide) dX0_canTake_91 ?_
                refine J_goto 96 (by decide) dX0_canTake_92 ?_
                exact J_ireturn rfl (by first | rfl | assumption | simp [kb_nar]) dX0_canTake_96 (⟨by (try simp only [kb_0, kb_1, kb_n0, kb_n1, decide_eq_false_iff_not, decide_eq_true_eq, ne_eq, Classical.not_not] at *); first | (simp [kb, kb_0, kb_1, vr_n, vr_s, takF, may_1, may_2, havF_n, havF_s, shF_none, shF_some, *]; done) | (simp [kb, kb_0, kb_1, vr_n, vr_s, takF, may_1, may_2, havF_n, havF_s, shF_none, shF_some, *] <;> grind), rfl⟩) (by omega) (by omega)
            · skip
              refine J_iconst (v := 0) (by decide) dX0_canTake_59 ?_
              exact J_ireturn rfl (by first | rfl | assumption | simp [kb_nar]) dX0_canTake_60 (⟨by (try simp only [kb_0, kb_1, kb_n0, kb_n1, decide_eq_false_iff_not, decide_eq_true_eq, ne_eq, Classical.not_not] at *); first | (simp [kb, kb_0, kb_1, vr_n, vr_s, takF, may_1, may_2, havF_n, havF_s, shF_none, shF_some, *]; done) | (simp [kb, kb_0, kb_1, vr_n, vr_s, takF, may_1, may_2, havF_n, havF_s, shF_none, shF_some, *] <;> grind), rfl⟩) (by omega) (by omega)
          · skip
            refine J_iconst (v := 1) (by decide) dX0_canTake_38 ?_
            refine J_goto 43 (by decide) dX0_canTake_39 ?_
            refine J_istore (lv' := [(0, .ref (ka S 3 0)), (1, .ref a), (2, .int v), (3, .int 1), (4, .int 2), (5, .ref a127), (6, .int 1)]) (by decide) rfl dX0_canTake_43 ?_
            refine J_iload 6 rfl dX0_canTake_45 ?_
            refine J_if_ne 61 (by decide) dX0_canTake_47 (fun c146 => ?_) (fun c146 => ?_)
            rotate_left
            · exact absurd c146 (by decide)
            refine J_iload 6 rfl dX0_canTake_61 ?_
            refine J_if_eq 77 (by decide) dX0_canTake_63 (fun c147 => ?_) (fun c147 => ?_)
            · exact absurd c147 (by decide)
            refine J_aload_n 1 rfl dX0_canTake_66 ?_
            refine J_iload 4 rfl dX0_canTake_67 ?_
            refine cv_0_29 (cells' := 0) (slots' := 0) dX0_canTake_69 (c_X5_mayHave (by assumption)) (n20 (by assumption)) ⟨by decide, by decide⟩ rfl rfl (by decide) (by decide) (Nat.le_of_ble_eq_true rfl) (fun _ _ r148 => ?_) (fun _ _ h => h.elim)
            obtain ⟨rfl, rfl⟩ := r148
            refine J_eq (st' := [.int (kb (mayF I a 2))]) rfl rfl rfl ?_
            refine J_topv (v' := .int 1) (by first | rfl | (rw [may_2]; rfl)) ?_
            refine J_if_eq 77 (by decide) dX0_canTake_72 (fun c149 => ?_) (fun c149 => ?_)
            · exact absurd c149 (by decide)
            refine J_iconst (v := 1) (by decide) dX0_canTake_75 ?_
            refine J_istore_n (lv' := [(0, .ref (ka S 3 0)), (1, .ref a), (2, .int v), (3, .int 1), (4, .int 2), (5, .ref a127), (6, .int 1)]) (by decide) rfl dX0_canTake_76 ?_
            refine J_iinc (v := 3) (lv' := [(0, .ref (ka S 3 0)), (1, .ref a), (2, .int v), (3, .int 1), (4, .int 3), (5, .ref a127), (6, .int 1)]) 4 rfl (by decide) (by decide) rfl dX0_canTake_77 ?_
            refine J_goto 5 (by decide) dX0_canTake_80 ?_
            refine J_iload 4 rfl dX0_canTake_5 ?_
            refine J_aload_n 0 rfl dX0_canTake_7 ?_
            refine gf_0_11 (n3 _) dX0_canTake_8 ?_
            refine J_alen (v := 3) 5 (n14 _) rfl rfl rfl dX0_canTake_11 ?_
            refine J_icmp_ge 83 (by decide) dX0_canTake_12 (fun c151 => ?_) (fun c151 => ?_)
            rotate_left
            · exact absurd (by decide) c151
            refine J_iload_n 2 rfl dX0_canTake_83 ?_
            refine J_if_eq 95 (by decide) dX0_canTake_84 (fun c152 => ?_) (fun c152 => ?_)
            · skip
              refine J_iconst (v := 0) (by decide) dX0_canTake_95 ?_
              exact J_ireturn rfl (by first | rfl | assumption | simp [kb_nar]) dX0_canTake_96 (⟨by (try simp only [kb_0, kb_1, kb_n0, kb_n1, decide_eq_false_iff_not, decide_eq_true_eq, ne_eq, Classical.not_not] at *); first | (simp [kb, kb_0, kb_1, vr_n, vr_s, takF, may_1, may_2, havF_n, havF_s, shF_none, shF_some, *]; done) | (simp [kb, kb_0, kb_1, vr_n, vr_s, takF, may_1, may_2, havF_n, havF_s, shF_none, shF_some, *] <;> grind), rfl⟩) (by omega) (by omega)
            · skip
              refine J_iload_n 3 rfl dX0_canTake_87 ?_
              refine J_if_eq 95 (by decide) dX0_canTake_88 (fun c153 => ?_) (fun c153 => ?_)
              · exact absurd c153 (by decide)
              refine J_iconst (v := 1) (by decide) dX0_canTake_91 ?_
              refine J_goto 96 (by decide) dX0_canTake_92 ?_
              exact J_ireturn rfl (by first | rfl | assumption | simp [kb_nar]) dX0_canTake_96 (⟨by (try simp only [kb_0, kb_1, kb_n0, kb_n1, decide_eq_false_iff_not, decide_eq_true_eq, ne_eq, Classical.not_not] at *); first | (simp [kb, kb_0, kb_1, vr_n, vr_s, takF, may_1, may_2, havF_n, havF_s, shF_none, shF_some, *]; done) | (simp [kb, kb_0, kb_1, vr_n, vr_s, takF, may_1, may_2, havF_n, havF_s, shF_none, shF_some, *] <;> grind), rfl⟩) (by omega) (by omega)
      · skip
        have ma119 : a119 ∈ LP := hsp _ _ (by decide) o118
        refine J_topv (v' := .ref a119) (by first | rfl | (rw [o118]; rfl)) ?_
        refine J_astore (lv' := [(0, .ref (ka S 3 0)), (1, .ref a), (2, .int v), (3, .int 1), (4, .int 1), (5, .ref a119), (6, .int 1)]) (by decide) rfl dX0_canTake_22 ?_
        refine J_aload 5 rfl dX0_canTake_24 ?_
        refine J_ifnull dX0_canTake_26 ?_
        refine J_aload_n 1 rfl dX0_canTake_29 ?_
        refine J_aload 5 rfl dX0_canTake_30 ?_
        refine cv_0_25 (cells' := 0) (slots' := 0) dX0_canTake_32 (c_X5_canBreakInOn (by assumption) (by assumption)) (n20 (by assumption)) ⟨by decide, by decide⟩ rfl rfl (by decide) (by decide) (Nat.le_of_ble_eq_true rfl) (fun _ _ r154 => ?_) (fun _ _ h => h.elim)
        obtain ⟨rfl, rfl⟩ := r154
        refine J_eq (st' := [.int (kb (brkF I a a119))]) rfl rfl rfl ?_
        refine J_if_eq 42 (by decide) dX0_canTake_35 (fun c155 => ?_) (fun c155 => ?_)
        · skip
          refine J_iconst (v := 0) (by decide) dX0_canTake_42 ?_
          refine J_istore (lv' := [(0, .ref (ka S 3 0)), (1, .ref a), (2, .int v), (3, .int 1), (4, .int 1), (5, .ref a119), (6, .int 0)]) (by decide) rfl dX0_canTake_43 ?_
          refine J_iload 6 rfl dX0_canTake_45 ?_
          refine J_if_ne 61 (by decide) dX0_canTake_47 (fun c156 => ?_) (fun c156 => ?_)
          · exact absurd (by decide) c156
          refine J_aload 5 rfl dX0_canTake_50 ?_
          refine J_iload_n 2 rfl dX0_canTake_52 ?_
          refine cv_0_21 (cells' := 0) (slots' := 0) dX0_canTake_53 (c_X5_sharesStationWith (by assumption)) (n20 (by assumption)) ⟨by decide, by decide⟩ rfl rfl (by decide) (by decide) (Nat.le_of_ble_eq_true rfl) (fun _ _ r157 => ?_) (fun _ _ h => h.elim)
          obtain ⟨rfl, rfl⟩ := r157
          refine J_eq (st' := [.int (kb (shrF I a119 v))]) rfl rfl rfl ?_
          refine J_if_eq 61 (by decide) dX0_canTake_56 (fun c158 => ?_) (fun c158 => ?_)
          · skip
            refine J_iload 6 rfl dX0_canTake_61 ?_
            refine J_if_eq 77 (by decide) dX0_canTake_63 (fun c159 => ?_) (fun c159 => ?_)
            rotate_left
            · exact absurd (by decide) c159
            refine J_iinc (v := 2) (lv' := [(0, .ref (ka S 3 0)), (1, .ref a), (2, .int v), (3, .int 1), (4, .int 2), (5, .ref a119), (6, .int 0)]) 4 rfl (by decide) (by decide) rfl dX0_canTake_77 ?_
            refine J_goto 5 (by decide) dX0_canTake_80 ?_
            refine J_iload 4 rfl dX0_canTake_5 ?_
            refine J_aload_n 0 rfl dX0_canTake_7 ?_
            refine gf_0_11 (n3 _) dX0_canTake_8 ?_
            refine J_alen (v := 3) 5 (n14 _) rfl rfl rfl dX0_canTake_11 ?_
            refine J_icmp_ge 83 (by decide) dX0_canTake_12 (fun c161 => ?_) (fun c161 => ?_)
            · exact absurd c161 (by decide)
            refine J_aload_n 0 rfl dX0_canTake_15 ?_
            refine gf_0_11 (n3 _) dX0_canTake_16 ?_
            refine J_iload 4 rfl dX0_canTake_19 ?_
            refine J_aald 2 5 (n14 _) rfl rfl (vp_in_iff.mpr (by decide)) (by decide) dX0_canTake_21 ?_
            rcases opt_split (R 14 0 2) with o162 | ⟨a163, o162⟩
            · skip
              refine J_topv (v' := .null) (by first | rfl | (rw [o162]; rfl)) ?_
              refine J_astoreN (lv' := [(0, .ref (ka S 3 0)), (1, .ref a), (2, .int v), (3, .int 1), (4, .int 2), (5, .null), (6, .int 0)]) (by decide) rfl dX0_canTake_22 ?_
              refine J_aloadN 5 rfl dX0_canTake_24 ?_
              refine J_ifnullN 38 (by decide) dX0_canTake_26 ?_
              refine J_iconst (v := 1) (by decide) dX0_canTake_38 ?_
              refine J_goto 43 (by decide) dX0_canTake_39 ?_
              refine J_istore (lv' := [(0, .ref (ka S 3 0)), (1, .ref a), (2, .int v), (3, .int 1), (4, .int 2), (5, .null), (6, .int 1)]) (by decide) rfl dX0_canTake_43 ?_
              refine J_iload 6 rfl dX0_canTake_45 ?_
              refine J_if_ne 61 (by decide) dX0_canTake_47 (fun c164 => ?_) (fun c164 => ?_)
              rotate_left
              · exact absurd c164 (by decide)
              refine J_iload 6 rfl dX0_canTake_61 ?_
              refine J_if_eq 77 (by decide) dX0_canTake_63 (fun c165 => ?_) (fun c165 => ?_)
              · exact absurd c165 (by decide)
              refine J_aload_n 1 rfl dX0_canTake_66 ?_
              refine J_iload 4 rfl dX0_canTake_67 ?_
              refine cv_0_29 (cells' := 0) (slots' := 0) dX0_canTake_69 (c_X5_mayHave (by assumption)) (n20 (by assumption)) ⟨by decide, by decide⟩ rfl rfl (by decide) (by decide) (Nat.le_of_ble_eq_true rfl) (fun _ _ r166 => ?_) (fun _ _ h => h.elim)
              obtain ⟨rfl, rfl⟩ := r166
              refine J_eq (st' := [.int (kb (mayF I a 2))]) rfl rfl rfl ?_
              refine J_topv (v' := .int 1) (by first | rfl | (rw [may_2]; rfl)) ?_
              refine J_if_eq 77 (by decide) dX0_canTake_72 (fun c167 => ?_) (fun c167 => ?_)
              · exact absurd c167 (by decide)
              refine J_iconst (v := 1) (by decide) dX0_canTake_75 ?_
              refine J_istore_n (lv' := [(0, .ref (ka S 3 0)), (1, .ref a), (2, .int v), (3, .int 1), (4, .int 2), (5, .null), (6, .int 1)]) (by decide) rfl dX0_canTake_76 ?_
              refine J_iinc (v := 3) (lv' := [(0, .ref (ka S 3 0)), (1, .ref a), (2, .int v), (3, .int 1), (4, .int 3), (5, .null), (6, .int 1)]) 4 rfl (by decide) (by decide) rfl dX0_canTake_77 ?_
              refine J_goto 5 (by decide) dX0_canTake_80 ?_
              refine J_iload 4 rfl dX0_canTake_5 ?_
              refine J_aload_n 0 rfl dX0_canTake_7 ?_
              refine gf_0_11 (n3 _) dX0_canTake_8 ?_
              refine J_alen (v := 3) 5 (n14 _) rfl rfl rfl dX0_canTake_11 ?_
              refine J_icmp_ge 83 (by decide) dX0_canTake_12 (fun c169 => ?_) (fun c169 => ?_)
              rotate_left
              · exact absurd (by decide) c169
              refine J_iload_n 2 rfl dX0_canTake_83 ?_
              refine J_if_eq 95 (by decide) dX0_canTake_84 (fun c170 => ?_) (fun c170 => ?_)
              · skip
                refine J_iconst (v := 0) (by decide) dX0_canTake_95 ?_
                exact J_ireturn rfl (by first | rfl | assumption | simp [kb_nar]) dX0_canTake_96 (⟨by (try simp only [kb_0, kb_1, kb_n0, kb_n1, decide_eq_false_iff_not, decide_eq_true_eq, ne_eq, Classical.not_not] at *); first | (simp [kb, kb_0, kb_1, vr_n, vr_s, takF, may_1, may_2, havF_n, havF_s, shF_none, shF_some, *]; done) | (simp [kb, kb_0, kb_1, vr_n, vr_s, takF, may_1, may_2, havF_n, havF_s, shF_none, shF_some, *] <;> grind), rfl⟩) (by omega) (by omega)
              · skip
                refine J_iload_n 3 rfl dX0_canTake_87 ?_
                refine J_if_eq 95 (by decide) dX0_canTake_88 (fun c171 => ?_) (fun c171 => ?_)
                · exact absurd c171 (by decide)
                refine J_iconst (v := 1) (by decide) dX0_canTake_91 ?_
                refine J_goto 96 (by decide) dX0_canTake_92 ?_
                exact J_ireturn rfl (by first | rfl | assumption | simp [kb_nar]) dX0_canTake_96 (⟨by (try simp only [kb_0, kb_1, kb_n0, kb_n1, decide_eq_false_iff_not, decide_eq_true_eq, ne_eq, Classical.not_not] at *); first | (simp [kb, kb_0, kb_1, vr_n, vr_s, takF, may_1, may_2, havF_n, havF_s, shF_none, shF_some, *]; done) | (simp [kb, kb_0, kb_1, vr_n, vr_s, takF, may_1, may_2, havF_n, havF_s, shF_none, shF_some, *] <;> grind), rfl⟩) (by omega) (by omega)
            · skip
              have ma163 : a163 ∈ LP := hsp _ _ (by decide) o162
              refine J_topv (v' := .ref a163) (by first | rfl | (rw [o162]; rfl)) ?_
              refine J_astore (lv' := [(0, .ref (ka S 3 0)), (1, .ref a), (2, .int v), (3, .int 1), (4, .int 2), (5, .ref a163), (6, .int 0)]) (by decide) rfl dX0_canTake_22 ?_
              refine J_aload 5 rfl dX0_canTake_24 ?_
              refine J_ifnull dX0_canTake_26 ?_
              refine J_aload_n 1 rfl dX0_canTake_29 ?_
              refine J_aload 5 rfl dX0_canTake_30 ?_
              refine cv_0_25 (cells' := 0) (slots' := 0) dX0_canTake_32 (c_X5_canBreakInOn (by assumption) (by assumption)) (n20 (by assumption)) ⟨by decide, by decide⟩ rfl rfl (by decide) (by decide) (Nat.le_of_ble_eq_true rfl) (fun _ _ r172 => ?_) (fun _ _ h => h.elim)
              obtain ⟨rfl, rfl⟩ := r172
              refine J_eq (st' := [.int (kb (brkF I a a163))]) rfl rfl rfl ?_
              refine J_if_eq 42 (by decide) dX0_canTake_35 (fun c173 => ?_) (fun c173 => ?_)
              · skip
                refine J_iconst (v := 0) (by decide) dX0_canTake_42 ?_
                refine J_istore (lv' := [(0, .ref (ka S 3 0)), (1, .ref a), (2, .int v), (3, .int 1), (4, .int 2), (5, .ref a163), (6, .int 0)]) (by decide) rfl dX0_canTake_43 ?_
                refine J_iload 6 rfl dX0_canTake_45 ?_
                refine J_if_ne 61 (by decide) dX0_canTake_47 (fun c174 => ?_) (fun c174 => ?_)
                · exact absurd (by decide) c174
                refine J_aload 5 rfl dX0_canTake_50 ?_
                refine J_iload_n 2 rfl dX0_canTake_52 ?_
                refine cv_0_21 (cells' := 0) (slots' := 0) dX0_canTake_53 (c_X5_sharesStationWith (by assumption)) (n20 (by assumption)) ⟨by decide, by decide⟩ rfl rfl (by decide) (by decide) (Nat.le_of_ble_eq_true rfl) (fun _ _ r175 => ?_) (fun _ _ h => h.elim)
                obtain ⟨rfl, rfl⟩ := r175
                refine J_eq (st' := [.int (kb (shrF I a163 v))]) rfl rfl rfl ?_
                refine J_if_eq 61 (by decide) dX0_canTake_56 (fun c176 => ?_) (fun c176 => ?_)
                · skip
                  refine J_iload 6 rfl dX0_canTake_61 ?_
                  refine J_if_eq 77 (by decide) dX0_canTake_63 (fun c177 => ?_) (fun c177 => ?_)
                  rotate_left
                  · exact absurd (by decide) c177
                  refine J_iinc (v := 3) (lv' := [(0, .ref (ka S 3 0)), (1, .ref a), (2, .int v), (3, .int 1), (4, .int 3), (5, .ref a163), (6, .int 0)]) 4 rfl (by decide) (by decide) rfl dX0_canTake_77 ?_
                  refine J_goto 5 (by decide) dX0_canTake_80 ?_
                  refine J_iload 4 rfl dX0_canTake_5 ?_
                  refine J_aload_n 0 rfl dX0_canTake_7 ?_
                  refine gf_0_11 (n3 _) dX0_canTake_8 ?_
                  refine J_alen (v := 3) 5 (n14 _) rfl rfl rfl dX0_canTake_11 ?_
                  refine J_icmp_ge 83 (by decide) dX0_canTake_12 (fun c179 => ?_) (fun c179 => ?_)
                  rotate_left
                  · exact absurd (by decide) c179
                  refine J_iload_n 2 rfl dX0_canTake_83 ?_
                  refine J_if_eq 95 (by decide) dX0_canTake_84 (fun c180 => ?_) (fun c180 => ?_)
                  · skip
                    refine J_iconst (v := 0) (by decide) dX0_canTake_95 ?_
                    exact J_ireturn rfl (by first | rfl | assumption | simp [kb_nar]) dX0_canTake_96 (⟨by (try simp only [kb_0, kb_1, kb_n0, kb_n1, decide_eq_false_iff_not, decide_eq_true_eq, ne_eq, Classical.not_not] at *); first | (simp [kb, kb_0, kb_1, vr_n, vr_s, takF, may_1, may_2, havF_n, havF_s, shF_none, shF_some, *]; done) | (simp [kb, kb_0, kb_1, vr_n, vr_s, takF, may_1, may_2, havF_n, havF_s, shF_none, shF_some, *] <;> grind), rfl⟩) (by omega) (by omega)
                  · skip
                    refine J_iload_n 3 rfl dX0_canTake_87 ?_
                    refine J_if_eq 95 (by decide) dX0_canTake_88 (fun c181 => ?_) (fun c181 => ?_)
                    · exact absurd c181 (by decide)
                    refine J_iconst (v := 1) (by decide) dX0_canTake_91 ?_
                    refine J_goto 96 (by decide) dX0_canTake_92 ?_
                    exact J_ireturn rfl (by first | rfl | assumption | simp [kb_nar]) dX0_canTake_96 (⟨by (try simp only [kb_0, kb_1, kb_n0, kb_n1, decide_eq_false_iff_not, decide_eq_true_eq, ne_eq, Classical.not_not] at *); first | (simp [kb, kb_0, kb_1, vr_n, vr_s, takF, may_1, may_2, havF_n, havF_s, shF_none, shF_some, *]; done) | (simp [kb, kb_0, kb_1, vr_n, vr_s, takF, may_1, may_2, havF_n, havF_s, shF_none, shF_some, *] <;> grind), rfl⟩) (by omega) (by omega)
                · skip
                  refine J_iconst (v := 0) (by decide) dX0_canTake_59 ?_
                  exact J_ireturn rfl (by first | rfl | assumption | simp [kb_nar]) dX0_canTake_60 (⟨by (try simp only [kb_0, kb_1, kb_n0, kb_n1, decide_eq_false_iff_not, decide_eq_true_eq, ne_eq, Classical.not_not] at *); first | (simp [kb, kb_0, kb_1, vr_n, vr_s, takF, may_1, may_2, havF_n, havF_s, shF_none, shF_some, *]; done) | (simp [kb, kb_0, kb_1, vr_n, vr_s, takF, may_1, may_2, havF_n, havF_s, shF_none, shF_some, *] <;> grind), rfl⟩) (by omega) (by omega)
              · skip
                refine J_iconst (v := 1) (by decide) dX0_canTake_38 ?_
                refine J_goto 43 (by decide) dX0_canTake_39 ?_
                refine J_istore (lv' := [(0, .ref (ka S 3 0)), (1, .ref a), (2, .int v), (3, .int 1), (4, .int 2), (5, .ref a163), (6, .int 1)]) (by decide) rfl dX0_canTake_43 ?_
                refine J_iload 6 rfl dX0_canTake_45 ?_
                refine J_if_ne 61 (by decide) dX0_canTake_47 (fun c182 => ?_) (fun c182 => ?_)
                rotate_left
                · exact absurd c182 (by decide)
                refine J_iload 6 rfl dX0_canTake_61 ?_
                refine J_if_eq 77 (by decide) dX0_canTake_63 (fun c183 => ?_) (fun c183 => ?_)
                · exact absurd c183 (by decide)
                refine J_aload_n 1 rfl dX0_canTake_66 ?_
                refine J_iload 4 rfl dX0_canTake_67 ?_
                refine cv_0_29 (cells' := 0) (slots' := 0) dX0_canTake_69 (c_X5_mayHave (by assumption)) (n20 (by assumption)) ⟨by decide, by decide⟩ rfl rfl (by decide) (by decide) (Nat.le_of_ble_eq_true rfl) (fun _ _ r184 => ?_) (fun _ _ h => h.elim)
                obtain ⟨rfl, rfl⟩ := r184
                refine J_eq (st' := [.int (kb (mayF I a 2))]) rfl rfl rfl ?_
                refine J_topv (v' := .int 1) (by first | rfl | (rw [may_2]; rfl)) ?_
                refine J_if_eq 77 (by decide) dX0_canTake_72 (fun c185 => ?_) (fun c185 => ?_)
                · exact absurd c185 (by decide)
                refine J_iconst (v := 1) (by decide) dX0_canTake_75 ?_
                refine J_istore_n (lv' := [(0, .ref (ka S 3 0)), (1, .ref a), (2, .int v), (3, .int 1), (4, .int 2), (5, .ref a163), (6, .int 1)]) (by decide) rfl dX0_canTake_76 ?_
                refine J_iinc (v := 3) (lv' := [(0, .ref (ka S 3 0)), (1, .ref a), (2, .int v), (3, .int 1), (4, .int 3), (5, .ref a163), (6, .int 1)]) 4 rfl (by decide) (by decide) rfl dX0_canTake_77 ?_
                refine J_goto 5 (by decide) dX0_canTake_80 ?_
                refine J_iload 4 rfl dX0_canTake_5 ?_
                refine J_aload_n 0 rfl dX0_canTake_7 ?_
                refine gf_0_11 (n3 _) dX0_canTake_8 ?_
                refine J_alen (v := 3) 5 (n14 _) rfl rfl rfl dX0_canTake_11 ?_
                refine J_icmp_ge 83 (by decide) dX0_canTake_12 (fun c187 => ?_) (fun c187 => ?_)
                rotate_left
                · exact absurd (by decide) c187
                refine J_iload_n 2 rfl dX0_canTake_83 ?_
                refine J_if_eq 95 (by decide) dX0_canTake_84 (fun c188 => ?_) (fun c188 => ?_)
                · skip
                  refine J_iconst (v := 0) (by decide) dX0_canTake_95 ?_
                  exact J_ireturn rfl (by first | rfl | assumption | simp [kb_nar]) dX0_canTake_96 (⟨by (try simp only [kb_0, kb_1, kb_n0, kb_n1, decide_eq_false_iff_not, decide_eq_true_eq, ne_eq, Classical.not_not] at *); first | (simp [kb, kb_0, kb_1, vr_n, vr_s, takF, may_1, may_2, havF_n, havF_s, shF_none, shF_some, *]; done) | (simp [kb, kb_0, kb_1, vr_n, vr_s, takF, may_1, may_2, havF_n, havF_s, shF_none, shF_some, *] <;> grind), rfl⟩) (by omega) (by omega)
                · skip
                  refine J_iload_n 3 rfl dX0_canTake_87 ?_
                  refine J_if_eq 95 (by decide) dX0_canTake_88 (fun c189 => ?_) (fun c189 => ?_)
                  · exact absurd c189 (by decide)
                  refine J_iconst (v := 1) (by decide) dX0_canTake_91 ?_
                  refine J_goto 96 (by decide) dX0_canTake_92 ?_
                  exact J_ireturn rfl (by first | rfl | assumption | simp [kb_nar]) dX0_canTake_96 (⟨by (try simp only [kb_0, kb_1, kb_n0, kb_n1, decide_eq_false_iff_not, decide_eq_true_eq, ne_eq, Classical.not_not] at *); first | (simp [kb, kb_0, kb_1, vr_n, vr_s, takF, may_1, may_2, havF_n, havF_s, shF_none, shF_some, *]; done) | (simp [kb, kb_0, kb_1, vr_n, vr_s, takF, may_1, may_2, havF_n, havF_s, shF_none, shF_some, *] <;> grind), rfl⟩) (by omega) (by omega)
          · skip
            refine J_iconst (v := 0) (by decide) dX0_canTake_59 ?_
            exact J_ireturn rfl (by first | rfl | assumption | simp [kb_nar]) dX0_canTake_60 (⟨by (try simp only [kb_0, kb_1, kb_n0, kb_n1, decide_eq_false_iff_not, decide_eq_true_eq, ne_eq, Classical.not_not] at *); first | (simp [kb, kb_0, kb_1, vr_n, vr_s, takF, may_1, may_2, havF_n, havF_s, shF_none, shF_some, *]; done) | (simp [kb, kb_0, kb_1, vr_n, vr_s, takF, may_1, may_2, havF_n, havF_s, shF_none, shF_some, *] <;> grind), rfl⟩) (by omega) (by omega)
        · skip
          refine J_iconst (v := 1) (by decide) dX0_canTake_38 ?_
          refine J_goto 43 (by decide) dX0_canTake_39 ?_
          refine J_istore (lv' := [(0, .ref (ka S 3 0)), (1, .ref a), (2, .int v), (3, .int 1), (4, .int 1), (5, .ref a119), (6, .int 1)]) (by decide) rfl dX0_canTake_43 ?_
          refine J_iload 6 rfl dX0_canTake_45 ?_
          refine J_if_ne 61 (by decide) dX0_canTake_47 (fun c190 => ?_) (fun c190 => ?_)
          rotate_left
          · exact absurd c190 (by decide)
          refine J_iload 6 rfl dX0_canTake_61 ?_
          refine J_if_eq 77 (by decide) dX0_canTake_63 (fun c191 => ?_) (fun c191 => ?_)
          · exact absurd c191 (by decide)
          refine J_aload_n 1 rfl dX0_canTake_66 ?_
          refine J_iload 4 rfl dX0_canTake_67 ?_
          refine cv_0_29 (cells' := 0) (slots' := 0) dX0_canTake_69 (c_X5_mayHave (by assumption)) (n20 (by assumption)) ⟨by decide, by decide⟩ rfl rfl (by decide) (by decide) (Nat.le_of_ble_eq_true rfl) (fun _ _ r192 => ?_) (fun _ _ h => h.elim)
          obtain ⟨rfl, rfl⟩ := r192
          refine J_eq (st' := [.int (kb (mayF I a 1))]) rfl rfl rfl ?_
          refine J_topv (v' := .int 1) (by first | rfl | (rw [may_1]; rfl)) ?_
          refine J_if_eq 77 (by decide) dX0_canTake_72 (fun c193 => ?_) (fun c193 => ?_)
          · exact absurd c193 (by decide)
          refine J_iconst (v := 1) (by decide) dX0_canTake_75 ?_
          refine J_istore_n (lv' := [(0, .ref (ka S 3 0)), (1, .ref a), (2, .int v), (3, .int 1), (4, .int 1), (5, .ref a119), (6, .int 1)]) (by decide) rfl dX0_canTake_76 ?_
          refine J_iinc (v := 2) (lv' := [(0, .ref (ka S 3 0)), (1, .ref a), (2, .int v), (3, .int 1), (4, .int 2), (5, .ref a119), (6, .int 1)]) 4 rfl (by decide) (by decide) rfl dX0_canTake_77 ?_
          refine J_goto 5 (by decide) dX0_canTake_80 ?_
          refine J_iload 4 rfl dX0_canTake_5 ?_
          refine J_aload_n 0 rfl dX0_canTake_7 ?_
          refine gf_0_11 (n3 _) dX0_canTake_8 ?_
          refine J_alen (v := 3) 5 (n14 _) rfl rfl rfl dX0_canTake_11 ?_
          refine J_icmp_ge 83 (by decide) dX0_canTake_12 (fun c195 => ?_) (fun c195 => ?_)
          · exact absurd c195 (by decide)
          refine J_aload_n 0 rfl dX0_canTake_15 ?_
          refine gf_0_11 (n3 _) dX0_canTake_16 ?_
          refine J_iload 4 rfl dX0_canTake_19 ?_
          refine J_aald 2 5 (n14 _) rfl rfl (vp_in_iff.mpr (by decide)) (by decide) dX0_canTake_21 ?_
          rcases opt_split (R 14 0 2) with o196 | ⟨a197, o196⟩
          · skip
            refine J_topv (v' := .null) (by first | rfl | (rw [o196]; rfl)) ?_
            refine J_astoreN (lv' := [(0, .ref (ka S 3 0)), (1, .ref a), (2, .int v), (3, .int 1), (4, .int 2), (5, .null), (6, .int 1)]) (by decide) rfl dX0_canTake_22 ?_
            refine J_aloadN 5 rfl dX0_canTake_24 ?_
            refine J_ifnullN 38 (by decide) dX0_canTake_26 ?_
            refine J_iconst (v := 1) (by decide) dX0_canTake_38 ?_
            refine J_goto 43 (by decide) dX0_canTake_39 ?_
            refine J_istore (lv' := [(0, .ref (ka S 3 0)), (1, .ref a), (2, .int v), (3, .int 1), (4, .int 2), (5, .null), (6, .int 1)]) (by decide) rfl dX0_canTake_43 ?_
            refine J_iload 6 rfl dX0_canTake_45 ?_
            refine J_if_ne 61 (by decide) dX0_canTake_47 (fun c198 => ?_) (fun c198 => ?_)
            rotate_left
            · exact absurd c198 (by decide)
            refine J_iload 6 rfl dX0_canTake_61 ?_
            refine J_if_eq 77 (by decide) dX0_canTake_63 (fun c199 => ?_) (fun c199 => ?_)
            · exact absurd c199 (by decide)
            refine J_aload_n 1 rfl dX0_canTake_66 ?_
            refine J_iload 4 rfl dX0_canTake_67 ?_
            refine cv_0_29 (cells' := 0) (slots' := 0) dX0_canTake_69 (c_X5_mayHave (by assumption)) (n20 (by assumption)) ⟨by decide, by decide⟩ rfl rfl (by decide) (by decide) (Nat.le_of_ble_eq_true rfl) (fun _ _ r200 => ?_) (fun _ _ h => h.elim)
            obtain ⟨rfl, rfl⟩ := r200
            refine J_eq (st' := [.int (kb (mayF I a 2))]) rfl rfl rfl ?_
            refine J_topv (v' := .int 1) (by first | rfl | (rw [may_2]; rfl)) ?_
            refine J_if_eq 77 (by decide) dX0_canTake_72 (fun c201 => ?_) (fun c201 => ?_)
            · exact absurd c201 (by decide)
            refine J_iconst (v := 1) (by decide) dX0_canTake_75 ?_
            refine J_istore_n (lv' := [(0, .ref (ka S 3 0)), (1, .ref a), (2, .int v), (3, .int 1), (4, .int 2), (5, .null), (6, .int 1)]) (by decide) rfl dX0_canTake_76 ?_
            refine J_iinc (v := 3) (lv' := [(0, .ref (ka S 3 0)), (1, .ref a), (2, .int v), (3, .int 1), (4, .int 3), (5, .null), (6, .int 1)]) 4 rfl (by decide) (by decide) rfl dX0_canTake_77 ?_
            refine J_goto 5 (by decide) dX0_canTake_80 ?_
            refine J_iload 4 rfl dX0_canTake_5 ?_
            refine J_aload_n 0 rfl dX0_canTake_7 ?_
            refine gf_0_11 (n3 _) dX0_canTake_8 ?_
            refine J_alen (v := 3) 5 (n14 _) rfl rfl rfl dX0_canTake_11 ?_
            refine J_icmp_ge 83 (by decide) dX0_canTake_12 (fun c203 => ?_) (fun c203 => ?_)
            rotate_left
            · exact absurd (by decide) c203
            refine J_iload_n 2 rfl dX0_canTake_83 ?_
            refine J_if_eq 95 (by decide) dX0_canTake_84 (fun c204 => ?_) (fun c204 => ?_)
            · skip
              refine J_iconst (v := 0) (by decide) dX0_canTake_95 ?_
              exact J_ireturn rfl (by first | rfl | assumption | simp [kb_nar]) dX0_canTake_96 (⟨by (try simp only [kb_0, kb_1, kb_n0, kb_n1, decide_eq_false_iff_not, decide_eq_true_eq, ne_eq, Classical.not_not] at *); first | (simp [kb, kb_0, kb_1, vr_n, vr_s, takF, may_1, may_2, havF_n, havF_s, shF_none, shF_some, *]; done) | (simp [kb, kb_0, kb_1, vr_n, vr_s, takF, may_1, may_2, havF_n, havF_s, shF_none, shF_some, *] <;> grind), rfl⟩) (by omega) (by omega)
            · skip
              refine J_iload_n 3 rfl dX0_canTake_87 ?_
              refine J_if_eq 95 (by decide) dX0_canTake_88 (fun c205 => ?_) (fun c205 => ?_)
              · exact absurd c205 (by decide)
              refine J_iconst (v := 1) (by decide) dX0_canTake_91 ?_
              refine J_goto 96 (by decide) dX0_canTake_92 ?_
              exact J_ireturn rfl (by first | rfl | assumption | simp [kb_nar]) dX0_canTake_96 (⟨by (try simp only [kb_0, kb_1, kb_n0, kb_n1, decide_eq_false_iff_not, decide_eq_true_eq, ne_eq, Classical.not_not] at *); first | (simp [kb, kb_0, kb_1, vr_n, vr_s, takF, may_1, may_2, havF_n, havF_s, shF_none, shF_some, *]; done) | (simp [kb, kb_0, kb_1, vr_n, vr_s, takF, may_1, may_2, havF_n, havF_s, shF_none, shF_some, *] <;> grind), rfl⟩) (by omega) (by omega)
          · skip
            have ma197 : a197 ∈ LP := hsp _ _ (by decide) o196
            refine J_topv (v' := .ref a197) (by first | rfl | (rw [o196]; rfl)) ?_
            refine J_astore (lv' := [(0, .ref (ka S 3 0)), (1, .ref a), (2, .int v), (3, .int 1), (4, .int 2), (5, .ref a197), (6, .int 1)]) (by decide) rfl dX0_canTake_22 ?_
            refine J_aload 5 rfl dX0_canTake_24 ?_
            refine J_ifnull dX0_canTake_26 ?_
            refine J_aload_n 1 rfl dX0_canTake_29 ?_
            refine J_aload 5 rfl dX0_canTake_30 ?_
            refine cv_0_25 (cells' := 0) (slots' := 0) dX0_canTake_32 (c_X5_canBreakInOn (by assumption) (by assumption)) (n20 (by assumption)) ⟨by decide, by decide⟩ rfl rfl (by decide) (by decide) (Nat.le_of_ble_eq_true rfl) (fun _ _ r206 => ?_) (fun _ _ h => h.elim)
            obtain ⟨rfl, rfl⟩ := r206
            refine J_eq (st' := [.int (kb (brkF I a a197))]) rfl rfl rfl ?_
            refine J_if_eq 42 (by decide) dX0_canTake_35 (fun c207 => ?_) (fun c207 => ?_)
            · skip
              refine J_iconst (v := 0) (by decide) dX0_canTake_42 ?_
              refine J_istore (lv' := [(0, .ref (ka S 3 0)), (1, .ref a), (2, .int v), (3, .int 1), (4, .int 2), (5, .ref a197), (6, .int 0)]) (by decide) rfl dX0_canTake_43 ?_
              refine J_iload 6 rfl dX0_canTake_45 ?_
              refine J_if_ne 61 (by decide) dX0_canTake_47 (fun c208 => ?_) (fun c208 => ?_)
              · exact absurd (by decide) c208
              refine J_aload 5 rfl dX0_canTake_50 ?_
              refine J_iload_n 2 rfl dX0_canTake_52 ?_
              refine cv_0_21 (cells' := 0) (slots' := 0) dX0_canTake_53 (c_X5_sharesStationWith (by assumption)) (n20 (by assumption)) ⟨by decide, by decide⟩ rfl rfl (by decide) (by decide) (Nat.le_of_ble_eq_true rfl) (fun _ _ r209 => ?_) (fun _ _ h => h.elim)
              obtain ⟨rfl, rfl⟩ := r209
              refine J_eq (st' := [.int (kb (shrF I a197 v))]) rfl rfl rfl ?_
              refine J_if_eq 61 (by decide) dX0_canTake_56 (fun c210 => ?_) (fun c210 => ?_)
              · skip
                refine J_iload 6 rfl dX0_canTake_61 ?_
                refine J_if_eq 77 (by decide) dX0_canTake_63 (fun c211 => ?_) (fun c211 => ?_)
                rotate_left
                · exact absurd (by decide) c211
                refine J_iinc (v := 3) (lv' := [(0, .ref (ka S 3 0)), (1, .ref a), (2, .int v), (3, .int 1), (4, .int 3), (5, .ref a197), (6, .int 0)]) 4 rfl (by decide) (by decide) rfl dX0_canTake_77 ?_
                refine J_goto 5 (by decide) dX0_canTake_80 ?_
                refine J_iload 4 rfl dX0_canTake_5 ?_
                refine J_aload_n 0 rfl dX0_canTake_7 ?_
                refine gf_0_11 (n3 _) dX0_canTake_8 ?_
                refine J_alen (v := 3) 5 (n14 _) rfl rfl rfl dX0_canTake_11 ?_
                refine J_icmp_ge 83 (by decide) dX0_canTake_12 (fun c213 => ?_) (fun c213 => ?_)
                rotate_left
                · exact absurd (by decide) c213
                refine J_iload_n 2 rfl dX0_canTake_83 ?_
                refine J_if_eq 95 (by decide) dX0_canTake_84 (fun c214 => ?_) (fun c214 => ?_)
                · skip
                  refine J_iconst (v := 0) (by decide) dX0_canTake_95 ?_
                  exact J_ireturn rfl (by first | rfl | assumption | simp [kb_nar]) dX0_canTake_96 (⟨by (try simp only [kb_0, kb_1, kb_n0, kb_n1, decide_eq_false_iff_not, decide_eq_true_eq, ne_eq, Classical.not_not] at *); first | (simp [kb, kb_0, kb_1, vr_n, vr_s, takF, may_1, may_2, havF_n, havF_s, shF_none, shF_some, *]; done) | (simp [kb, kb_0, kb_1, vr_n, vr_s, takF, may_1, may_2, havF_n, havF_s, shF_none, shF_some, *] <;> grind), rfl⟩) (by omega) (by omega)
                · skip
                  refine J_iload_n 3 rfl dX0_canTake_87 ?_
                  refine J_if_eq 95 (by decide) dX0_canTake_88 (fun c215 => ?_) (fun c215 => ?_)
                  · exact absurd c215 (by decide)
                  refine J_iconst (v := 1) (by decide) dX0_canTake_91 ?_
                  refine J_goto 96 (by decide) dX0_canTake_92 ?_
                  exact J_ireturn rfl (by first | rfl | assumption | simp [kb_nar]) dX0_canTake_96 (⟨by (try simp only [kb_0, kb_1, kb_n0, kb_n1, decide_eq_false_iff_not, decide_eq_true_eq, ne_eq, Classical.not_not] at *); first | (simp [kb, kb_0, kb_1, vr_n, vr_s, takF, may_1, may_2, havF_n, havF_s, shF_none, shF_some, *]; done) | (simp [kb, kb_0, kb_1, vr_n, vr_s, takF, may_1, may_2, havF_n, havF_s, shF_none, shF_some, *] <;> grind), rfl⟩) (by omega) (by omega)
              · skip
                refine J_iconst (v := 0) (by decide) dX0_canTake_59 ?_
                exact J_ireturn rfl (by first | rfl | assumption | simp [kb_nar]) dX0_canTake_60 (⟨by (try simp only [kb_0, kb_1, kb_n0, kb_n1, decide_eq_false_iff_not, decide_eq_true_eq, ne_eq, Classical.not_not] at *); first | (simp [kb, kb_0, kb_1, vr_n, vr_s, takF, may_1, may_2, havF_n, havF_s, shF_none, shF_some, *]; done) | (simp [kb, kb_0, kb_1, vr_n, vr_s, takF, may_1, may_2, havF_n, havF_s, shF_none, shF_some, *] <;> grind), rfl⟩) (by omega) (by omega)
            · skip
              refine J_iconst (v := 1) (by decide) dX0_canTake_38 ?_
              refine J_goto 43 (by decide) dX0_canTake_39 ?_
              refine J_istore (lv' := [(0, .ref (ka S 3 0)), (1, .ref a), (2, .int v), (3, .int 1), (4, .int 2), (5, .ref a197), (6, .int 1)]) (by decide) rfl dX0_canTake_43 ?_
              refine J_iload 6 rfl dX0_canTake_45 ?_
              refine J_if_ne 61 (by decide) dX0_canTake_47 (fun c216 => ?_) (fun c216 => ?_)
              rotate_left
              · exact absurd c216 (by decide)
              refine J_iload 6 rfl dX0_canTake_61 ?_
              refine J_if_eq 77 (by decide) dX0_canTake_63 (fun c217 => ?_) (fun c217 => ?_)
              · exact absurd c217 (by decide)
              refine J_aload_n 1 rfl dX0_canTake_66 ?_
              refine J_iload 4 rfl dX0_canTake_67 ?_
              refine cv_0_29 (cells' := 0) (slots' := 0) dX0_canTake_69 (c_X5_mayHave (by assumption)) (n20 (by assumption)) ⟨by decide, by decide⟩ rfl rfl (by decide) (by decide) (Nat.le_of_ble_eq_true rfl) (fun _ _ r218 => ?_) (fun _ _ h => h.elim)
              obtain ⟨rfl, rfl⟩ := r218
              refine J_eq (st' := [.int (kb (mayF I a 2))]) rfl rfl rfl ?_
              refine J_topv (v' := .int 1) (by first | rfl | (rw [may_2]; rfl)) ?_
              refine J_if_eq 77 (by decide) dX0_canTake_72 (fun c219 => ?_) (fun c219 => ?_)
              · exact absurd c219 (by decide)
              refine J_iconst (v := 1) (by decide) dX0_canTake_75 ?_
              refine J_istore_n (lv' := [(0, .ref (ka S 3 0)), (1, .ref a), (2, .int v), (3, .int 1), (4, .int 2), (5, .ref a197), (6, .int 1)]) (by decide) rfl dX0_canTake_76 ?_
              refine J_iinc (v := 3) (lv' := [(0, .ref (ka S 3 0)), (1, .ref a), (2, .int v), (3, .int 1), (4, .int 3), (5, .ref a197), (6, .int 1)]) 4 rfl (by decide) (by decide) rfl dX0_canTake_77 ?_
              refine J_goto 5 (by decide) dX0_canTake_80 ?_
              refine J_iload 4 rfl dX0_canTake_5 ?_
              refine J_aload_n 0 rfl dX0_canTake_7 ?_
              refine gf_0_11 (n3 _) dX0_canTake_8 ?_
              refine J_alen (v := 3) 5 (n14 _) rfl rfl rfl dX0_canTake_11 ?_
              refine J_icmp_ge 83 (by decide) dX0_canTake_12 (fun c221 => ?_) (fun c221 => ?_)
              rotate_left
              · exact absurd (by decide) c221
              refine J_iload_n 2 rfl dX0_canTake_83 ?_
              refine J_if_eq 95 (by decide) dX0_canTake_84 (fun c222 => ?_) (fun c222 => ?_)
              · skip
                refine J_iconst (v := 0) (by decide) dX0_canTake_95 ?_
                exact J_ireturn rfl (by first | rfl | assumption | simp [kb_nar]) dX0_canTake_96 (⟨by (try simp only [kb_0, kb_1, kb_n0, kb_n1, decide_eq_false_iff_not, decide_eq_true_eq, ne_eq, Classical.not_not] at *); first | (simp [kb, kb_0, kb_1, vr_n, vr_s, takF, may_1, may_2, havF_n, havF_s, shF_none, shF_some, *]; done) | (simp [kb, kb_0, kb_1, vr_n, vr_s, takF, may_1, may_2, havF_n, havF_s, shF_none, shF_some, *] <;> grind), rfl⟩) (by omega) (by omega)
              · skip
                refine J_iload_n 3 rfl dX0_canTake_87 ?_
                refine J_if_eq 95 (by decide) dX0_canTake_88 (fun c223 => ?_) (fun c223 => ?_)
                · exact absurd c223 (by decide)
                refine J_iconst (v := 1) (by decide) dX0_canTake_91 ?_
                refine J_goto 96 (by decide) dX0_canTake_92 ?_
                exact J_ireturn rfl (by first | rfl | assumption | simp [kb_nar]) dX0_canTake_96 (⟨by (try simp only [kb_0, kb_1, kb_n0, kb_n1, decide_eq_false_iff_not, decide_eq_true_eq, ne_eq, Classical.not_not] at *); first | (simp [kb, kb_0, kb_1, vr_n, vr_s, takF, may_1, may_2, havF_n, havF_s, shF_none, shF_some, *]; done) | (simp [kb, kb_0, kb_1, vr_n, vr_s, takF, may_1, may_2, havF_n, havF_s, shF_none, shF_some, *] <;> grind), rfl⟩) (by omega) (by omega)
  · skip
    have ma3 : a3 ∈ LP := hsp _ _ (by decide) o2
    refine J_topv (v' := .ref a3) (by first | rfl | (rw [o2]; rfl)) ?_
    refine J_astore (lv' := [(0, .ref (ka S 3 0)), (1, .ref a), (2, .int v), (3, .int 0), (4, .int 0), (5, .ref a3)]) (by decide) rfl dX0_canTake_22 ?_
    refine J_aload 5 rfl dX0_canTake_24 ?_
    refine J_ifnull dX0_canTake_26 ?_
    refine J_aload_n 1 rfl dX0_canTake_29 ?_
    refine J_aload 5 rfl dX0_canTake_30 ?_
    refine cv_0_25 (cells' := 0) (slots' := 0) dX0_canTake_32 (c_X5_canBreakInOn (by assumption) (by assumption)) (n20 (by assumption)) ⟨by decide, by decide⟩ rfl rfl (by decide) (by decide) (Nat.le_of_ble_eq_true rfl) (fun _ _ r224 => ?_) (fun _ _ h => h.elim)
    obtain ⟨rfl, rfl⟩ := r224
    refine J_eq (st' := [.int (kb (brkF I a a3))]) rfl rfl rfl ?_
    refine J_if_eq 42 (by decide) dX0_canTake_35 (fun c225 => ?_) (fun c225 => ?_)
    · skip
      refine J_iconst (v := 0) (by decide) dX0_canTake_42 ?_
      refine J_istore (lv' := [(0, .ref (ka S 3 0)), (1, .ref a), (2, .int v), (3, .int 0), (4, .int 0), (5, .ref a3), (6, .int 0)]) (by decide) rfl dX0_canTake_43 ?_
      refine J_iload 6 rfl dX0_canTake_45 ?_
      refine J_if_ne 61 (by decide) dX0_canTake_47 (fun c226 => ?_) (fun c226 => ?_)
      · exact absurd (by decide) c226
      refine J_aload 5 rfl dX0_canTake_50 ?_
      refine J_iload_n 2 rfl dX0_canTake_52 ?_
      refine cv_0_21 (cells' := 0) (slots' := 0) dX0_canTake_53 (c_X5_sharesStationWith (by assumption)) (n20 (by assumption)) ⟨by decide, by decide⟩ rfl rfl (by decide) (by decide) (Nat.le_of_ble_eq_true rfl) (fun _ _ r227 => ?_) (fun _ _ h => h.elim)
      obtain ⟨rfl, rfl⟩ := r227
      refine J_eq (st' := [.int (kb (shrF I a3 v))]) rfl rfl rfl ?_
      refine J_if_eq 61 (by decide) dX0_canTake_56 (fun c228 => ?_) (fun c228 => ?_)
      · skip
        refine J_iload 6 rfl dX0_canTake_61 ?_
        refine J_if_eq 77 (by decide) dX0_canTake_63 (fun c229 => ?_) (fun c229 => ?_)
        rotate_left
        · exact absurd (by decide) c229
        refine J_iinc (v := 1) (lv' := [(0, .ref (ka S 3 0)), (1, .ref a), (2, .int v), (3, .int 0), (4, .int 1), (5, .ref a3), (6, .int 0)]) 4 rfl (by decide) (by decide) rfl dX0_canTake_77 ?_
        refine J_goto 5 (by decide) dX0_canTake_80 ?_
        refine J_iload 4 rfl dX0_canTake_5 ?_
        refine J_aload_n 0 rfl dX0_canTake_7 ?_
        refine gf_0_11 (n3 _) dX0_canTake_8 ?_
        refine J_alen (v := 3) 5 (n14 _) rfl rfl rfl dX0_canTake_11 ?_
        refine J_icmp_ge 83 (by decide) dX0_canTake_12 (fun c231 => ?_) (fun c231 => ?_)
        · exact absurd c231 (by decide)
        refine J_aload_n 0 rfl dX0_canTake_15 ?_
        refine gf_0_11 (n3 _) dX0_canTake_16 ?_
        refine J_iload 4 rfl dX0_canTake_19 ?_
        refine J_aald 1 5 (n14 _) rfl rfl (vp_in_iff.mpr (by decide)) (by decide) dX0_canTake_21 ?_
        rcases opt_split (R 14 0 1) with o232 | ⟨a233, o232⟩
        · skip
          refine J_topv (v' := .null) (by first | rfl | (rw [o232]; rfl)) ?_
          refine J_astoreN (lv' := [(0, .ref (ka S 3 0)), (1, .ref a), (2, .int v), (3, .int 0), (4, .int 1), (5, .null), (6, .int 0)]) (by decide) rfl dX0_canTake_22 ?_
          refine J_aloadN 5 rfl dX0_canTake_24 ?_
          refine J_ifnullN 38 (by decide) dX0_canTake_26 ?_
          refine J_iconst (v := 1) (by decide) dX0_canTake_38 ?_
          refine J_goto 43 (by decide) dX0_canTake_39 ?_
          refine J_istore (lv' := [(0, .ref (ka S 3 0)), (1, .ref a), (2, .int v), (3, .int 0), (4, .int 1), (5, .null), (6, .int 1)]) (by decide) rfl dX0_canTake_43 ?_
          refine J_iload 6 rfl dX0_canTake_45 ?_
          refine J_if_ne 61 (by decide) dX0_canTake_47 (fun c234 => ?_) (fun c234 => ?_)
          rotate_left
          · exact absurd c234 (by decide)
          refine J_iload 6 rfl dX0_canTake_61 ?_
          refine J_if_eq 77 (by decide) dX0_canTake_63 (fun c235 => ?_) (fun c235 => ?_)
          · exact absurd c235 (by decide)
          refine J_aload_n 1 rfl dX0_canTake_66 ?_
          refine J_iload 4 rfl dX0_canTake_67 ?_
          refine cv_0_29 (cells' := 0) (slots' := 0) dX0_canTake_69 (c_X5_mayHave (by assumption)) (n20 (by assumption)) ⟨by decide, by decide⟩ rfl rfl (by decide) (by decide) (Nat.le_of_ble_eq_true rfl) (fun _ _ r236 => ?_) (fun _ _ h => h.elim)
          obtain ⟨rfl, rfl⟩ := r236
          refine J_eq (st' := [.int (kb (mayF I a 1))]) rfl rfl rfl ?_
          refine J_topv (v' := .int 1) (by first | rfl | (rw [may_1]; rfl)) ?_
          refine J_if_eq 77 (by decide) dX0_canTake_72 (fun c237 => ?_) (fun c237 => ?_)
          · exact absurd c237 (by decide)
          refine J_iconst (v := 1) (by decide) dX0_canTake_75 ?_
          refine J_istore_n (lv' := [(0, .ref (ka S 3 0)), (1, .ref a), (2, .int v), (3, .int 1), (4, .int 1), (5, .null), (6, .int 1)]) (by decide) rfl dX0_canTake_76 ?_
          refine J_iinc (v := 2) (lv' := [(0, .ref (ka S 3 0)), (1, .ref a), (2, .int v), (3, .int 1), (4, .int 2), (5, .null), (6, .int 1)]) 4 rfl (by decide) (by decide) rfl dX0_canTake_77 ?_
          refine J_goto 5 (by decide) dX0_canTake_80 ?_
          refine J_iload 4 rfl dX0_canTake_5 ?_
          refine J_aload_n 0 rfl dX0_canTake_7 ?_
          refine gf_0_11 (n3 _) dX0_canTake_8 ?_
          refine J_alen (v := 3) 5 (n14 _) rfl rfl rfl dX0_canTake_11 ?_
          refine J_icmp_ge 83 (by decide) dX0_canTake_12 (fun c239 => ?_) (fun c239 => ?_)
          · exact absurd c239 (by decide)
          refine J_aload_n 0 rfl dX0_canTake_15 ?_
          refine gf_0_11 (n3 _) dX0_canTake_16 ?_
          refine J_iload 4 rfl dX0_canTake_19 ?_
          refine J_aald 2 5 (n14 _) rfl rfl (vp_in_iff.mpr (by decide)) (by decide) dX0_canTake_21 ?_
          rcases opt_split (R 14 0 2) with o240 | ⟨a241, o240⟩
          · skip
            refine J_topv (v' := .null) (by first | rfl | (rw [o240]; rfl)) ?_
            refine J_astoreN (lv' := [(0, .ref (ka S 3 0)), (1, .ref a), (2, .int v), (3, .int 1), (4, .int 2), (5, .null), (6, .int 1)]) (by decide) rfl dX0_canTake_22 ?_
            refine J_aloadN 5 rfl dX0_canTake_24 ?_
            refine J_ifnullN 38 (by decide) dX0_canTake_26 ?_
            refine J_iconst (v := 1) (by decide) dX0_canTake_38 ?_
            refine J_goto 43 (by decide) dX0_canTake_39 ?_
            refine J_istore (lv' := [(0, .ref (ka S 3 0)), (1, .ref a), (2, .int v), (3, .int 1), (4, .int 2), (5, .null), (6, .int 1)]) (by decide) rfl dX0_canTake_43 ?_
            refine J_iload 6 rfl dX0_canTake_45 ?_
            refine J_if_ne 61 (by decide) dX0_canTake_47 (fun c242 => ?_) (fun c242 => ?_)
            rotate_left
            · exact absurd c242 (by decide)
            refine J_iload 6 rfl dX0_canTake_61 ?_
            refine J_if_eq 77 (by decide) dX0_canTake_63 (fun c243 => ?_) (fun c243 => ?_)
            · exact absurd c243 (by decide)
            refine J_aload_n 1 rfl dX0_canTake_66 ?_
            refine J_iload 4 rfl dX0_canTake_67 ?_
            refine cv_0_29 (cells' := 0) (slots' := 0) dX0_canTake_69 (c_X5_mayHave (by assumption)) (n20 (by assumption)) ⟨by decide, by decide⟩ rfl rfl (by decide) (by decide) (Nat.le_of_ble_eq_true rfl) (fun _ _ r244 => ?_) (fun _ _ h => h.elim)
            obtain ⟨rfl, rfl⟩ := r244
            refine J_eq (st' := [.int (kb (mayF I a 2))]) rfl rfl rfl ?_
            refine J_topv (v' := .int 1) (by first | rfl | (rw [may_2]; rfl)) ?_
            refine J_if_eq 77 (by decide) dX0_canTake_72 (fun c245 => ?_) (fun c245 => ?_)
            · exact absurd c245 (by decide)
            refine J_iconst (v := 1) (by decide) dX0_canTake_75 ?_
            refine J_istore_n (lv' := [(0, .ref (ka S 3 0)), (1, .ref a), (2, .int v), (3, .int 1), (4, .int 2), (5, .null), (6, .int 1)]) (by decide) rfl dX0_canTake_76 ?_
            refine J_iinc (v := 3) (lv' := [(0, .ref (ka S 3 0)), (1, .ref a), (2, .int v), (3, .int 1), (4, .int 3), (5, .null), (6, .int 1)]) 4 rfl (by decide) (by decide) rfl dX0_canTake_77 ?_
            refine J_goto 5 (by decide) dX0_canTake_80 ?_
            refine J_iload 4 rfl dX0_canTake_5 ?_
            refine J_aload_n 0 rfl dX0_canTake_7 ?_
            refine gf_0_11 (n3 _) dX0_canTake_8 ?_
            refine J_alen (v := 3) 5 (n14 _) rfl rfl rfl dX0_canTake_11 ?_
            refine J_icmp_ge 83 (by decide) dX0_canTake_12 (fun c247 => ?_) (fun c247 => ?_)
            rotate_left
            · exact absurd (by decide) c247
            refine J_iload_n 2 rfl dX0_canTake_83 ?_
            refine J_if_eq 95 (by decide) dX0_canTake_84 (fun c248 => ?_) (fun c248 => ?_)
            · skip
              refine J_iconst (v := 0) (by decide) dX0_canTake_95 ?_
              exact J_ireturn rfl (by first | rfl | assumption | simp [kb_nar]) dX0_canTake_96 (⟨by (try simp only [kb_0, kb_1, kb_n0, kb_n1, decide_eq_false_iff_not, decide_eq_true_eq, ne_eq, Classical.not_not] at *); first | (simp [kb, kb_0, kb_1, vr_n, vr_s, takF, may_1, may_2, havF_n, havF_s, shF_none, shF_some, *]; done) | (simp [kb, kb_0, kb_1, vr_n, vr_s, takF, may_1, may_2, havF_n, havF_s, shF_none, shF_some, *] <;> grind), rfl⟩) (by omega) (by omega)
            · skip
              refine J_iload_n 3 rfl dX0_canTake_87 ?_
              refine J_if_eq 95 (by decide) dX0_canTake_88 (fun c249 => ?_) (fun c249 => ?_)
              · exact absurd c249 (by decide)
              refine J_iconst (v := 1) (by decide) dX0_canTake_91 ?_
              refine J_goto 96 (by decide) dX0_canTake_92 ?_
              exact J_ireturn rfl (by first | rfl | assumption | simp [kb_nar]) dX0_canTake_96 (⟨by (try simp only [kb_0, kb_1, kb_n0, kb_n1, decide_eq_false_iff_not, decide_eq_true_eq, ne_eq, Classical.not_not] at *); first | (simp [kb, kb_0, kb_1, vr_n, vr_s, takF, may_1, may_2, havF_n, havF_s, shF_none, shF_some, *]; done) | (simp [kb, kb_0, kb_1, vr_n, vr_s, takF, may_1, may_2, havF_n, havF_s, shF_none, shF_some, *] <;> grind), rfl⟩) (by omega) (by omega)
          · skip
            have ma241 : a241 ∈ LP := hsp _ _ (by decide) o240
            refine J_topv (v' := .ref a241) (by first | rfl | (rw [o240]; rfl)) ?_
            refine J_astore (lv' := [(0, .ref (ka S 3 0)), (1, .ref a), (2, .int v), (3, .int 1), (4, .int 2), (5, .ref a241), (6, .int 1)]) (by decide) rfl dX0_canTake_22 ?_
            refine J_aload 5 rfl dX0_canTake_24 ?_
            refine J_ifnull dX0_canTake_26 ?_
            refine J_aload_n 1 rfl dX0_canTake_29 ?_
            refine J_aload 5 rfl dX0_canTake_30 ?_
            refine cv_0_25 (cells' := 0) (slots' := 0) dX0_canTake_32 (c_X5_canBreakInOn (by assumption) (by assumption)) (n20 (by assumption)) ⟨by decide, by decide⟩ rfl rfl (by decide) (by decide) (Nat.le_of_ble_eq_true rfl) (fun _ _ r250 => ?_) (fun _ _ h => h.elim)
            obtain ⟨rfl, rfl⟩ := r250
            refine J_eq (st' := [.int (kb (brkF I a a241))]) rfl rfl rfl ?_
            refine J_if_eq 42 (by decide) dX0_canTake_35 (fun c251 => ?_) (fun c251 => ?_)
            · skip
              refine J_iconst (v := 0) (by decide) dX0_canTake_42 ?_
              refine J_istore (lv' := [(0, .ref (ka S 3 0)), (1, .ref a), (2, .int v), (3, .int 1), (4, .int 2), (5, .ref a241), (6, .int 0)]) (by decide) rfl dX0_canTake_43 ?_
              refine J_iload 6 rfl dX0_canTake_45 ?_
              refine J_if_ne 61 (by decide) dX0_canTake_47 (fun c252 => ?_) (fun c252 => ?_)
              · exact absurd (by decide) c252
              refine J_aload 5 rfl dX0_canTake_50 ?_
              refine J_iload_n 2 rfl dX0_canTake_52 ?_
              refine cv_0_21 (cells' := 0) (slots' := 0) dX0_canTake_53 (c_X5_sharesStationWith (by assumption)) (n20 (by assumption)) ⟨by decide, by decide⟩ rfl rfl (by decide) (by decide) (Nat.le_of_ble_eq_true rfl) (fun _ _ r253 => ?_) (fun _ _ h => h.elim)
              obtain ⟨rfl, rfl⟩ := r253
              refine J_eq (st' := [.int (kb (shrF I a241 v))]) rfl rfl rfl ?_
              refine J_if_eq 61 (by decide) dX0_canTake_56 (fun c254 => ?_) (fun c254 => ?_)
              · skip
                refine J_iload 6 rfl dX0_canTake_61 ?_
                refine J_if_eq 77 (by decide) dX0_canTake_63 (fun c255 => ?_) (fun c255 => ?_)
                rotate_left
                · exact absurd (by decide) c255
                refine J_iinc (v := 3) (lv' := [(0, .ref (ka S 3 0)), (1, .ref a), (2, .int v), (3, .int 1), (4, .int 3), (5, .ref a241), (6, .int 0)]) 4 rfl (by decide) (by decide) rfl dX0_canTake_77 ?_
                refine J_goto 5 (by decide) dX0_canTake_80 ?_
                refine J_iload 4 rfl dX0_canTake_5 ?_
                refine J_aload_n 0 rfl dX0_canTake_7 ?_
                refine gf_0_11 (n3 _) dX0_canTake_8 ?_
                refine J_alen (v := 3) 5 (n14 _) rfl rfl rfl dX0_canTake_11 ?_
                refine J_icmp_ge 83 (by decide) dX0_canTake_12 (fun c257 => ?_) (fun c257 => ?_)
                rotate_left
                · exact absurd (by decide) c257
                refine J_iload_n 2 rfl dX0_canTake_83 ?_
                refine J_if_eq 95 (by decide) dX0_canTake_84 (fun c258 => ?_) (fun c258 => ?_)
                · skip
                  refine J_iconst (v := 0) (by decide) dX0_canTake_95 ?_
                  exact J_ireturn rfl (by first | rfl | assumption | simp [kb_nar]) dX0_canTake_96 (⟨by (try simp only [kb_0, kb_1, kb_n0, kb_n1, decide_eq_false_iff_not, decide_eq_true_eq, ne_eq, Classical.not_not] at *); first | (simp [kb, kb_0, kb_1, vr_n, vr_s, takF, may_1, may_2, havF_n, havF_s, shF_none, shF_some, *]; done) | (simp [kb, kb_0, kb_1, vr_n, vr_s, takF, may_1, may_2, havF_n, havF_s, shF_none, shF_some, *] <;> grind), rfl⟩) (by omega) (by omega)
                · skip
                  refine J_iload_n 3 rfl dX0_canTake_87 ?_
                  refine J_if_eq 95 (by decide) dX0_canTake_88 (fun c259 => ?_) (fun c259 => ?_)
                  · exact absurd c259 (by decide)
                  refine J_iconst (v := 1) (by decide) dX0_canTake_91 ?_
                  refine J_goto 96 (by decide) dX0_canTake_92 ?_
                  exact J_ireturn rfl (by first | rfl | assumption | simp [kb_nar]) dX0_canTake_96 (⟨by (try simp only [kb_0, kb_1, kb_n0, kb_n1, decide_eq_false_iff_not, decide_eq_true_eq, ne_eq, Classical.not_not] at *); first | (simp [kb, kb_0, kb_1, vr_n, vr_s, takF, may_1, may_2, havF_n, havF_s, shF_none, shF_some, *]; done) | (simp [kb, kb_0, kb_1, vr_n, vr_s, takF, may_1, may_2, havF_n, havF_s, shF_none, shF_some, *] <;> grind), rfl⟩) (by omega) (by omega)
              · skip
                refine J_iconst (v := 0) (by decide) dX0_canTake_59 ?_
                exact J_ireturn rfl (by first | rfl | assumption | simp [kb_nar]) dX0_canTake_60 (⟨by (try simp only [kb_0, kb_1, kb_n0, kb_n1, decide_eq_false_iff_not, decide_eq_true_eq, ne_eq, Classical.not_not] at *); first | (simp [kb, kb_0, kb_1, vr_n, vr_s, takF, may_1, may_2, havF_n, havF_s, shF_none, shF_some, *]; done) | (simp [kb, kb_0, kb_1, vr_n, vr_s, takF, may_1, may_2, havF_n, havF_s, shF_none, shF_some, *] <;> grind), rfl⟩) (by omega) (by omega)
            · skip
              refine J_iconst (v := 1) (by decide) dX0_canTake_38 ?_
              refine J_goto 43 (by decide) dX0_canTake_39 ?_
              refine J_istore (lv' := [(0, .ref (ka S 3 0)), (1, .ref a), (2, .int v), (3, .int 1), (4, .int 2), (5, .ref a241), (6, .int 1)]) (by decide) rfl dX0_canTake_43 ?_
              refine J_iload 6 rfl dX0_canTake_45 ?_
              refine J_if_ne 61 (by decide) dX0_canTake_47 (fun c260 => ?_) (fun c260 => ?_)
              rotate_left
              · exact absurd c260 (by decide)
              refine J_iload 6 rfl dX0_canTake_61 ?_
              refine J_if_eq 77 (by decide) dX0_canTake_63 (fun c261 => ?_) (fun c261 => ?_)
              · exact absurd c261 (by decide)
              refine J_aload_n 1 rfl dX0_canTake_66 ?_
              refine J_iload 4 rfl dX0_canTake_67 ?_
              refine cv_0_29 (cells' := 0) (slots' := 0) dX0_canTake_69 (c_X5_mayHave (by assumption)) (n20 (by assumption)) ⟨by decide, by decide⟩ rfl rfl (by decide) (by decide) (Nat.le_of_ble_eq_true rfl) (fun _ _ r262 => ?_) (fun _ _ h => h.elim)
              obtain ⟨rfl, rfl⟩ := r262
              refine J_eq (st' := [.int (kb (mayF I a 2))]) rfl rfl rfl ?_
              refine J_topv (v' := .int 1) (by first | rfl | (rw [may_2]; rfl)) ?_
              refine J_if_eq 77 (by decide) dX0_canTake_72 (fun c263 => ?_) (fun c263 => ?_)
              · exact absurd c263 (by decide)
              refine J_iconst (v := 1) (by decide) dX0_canTake_75 ?_
              refine J_istore_n (lv' := [(0, .ref (ka S 3 0)), (1, .ref a), (2, .int v), (3, .int 1), (4, .int 2), (5, .ref a241), (6, .int 1)]) (by decide) rfl dX0_canTake_76 ?_
              refine J_iinc (v := 3) (lv' := [(0, .ref (ka S 3 0)), (1, .ref a), (2, .int v), (3, .int 1), (4, .int 3), (5, .ref a241), (6, .int 1)]) 4 rfl (by decide) (by decide) rfl dX0_canTake_77 ?_
              refine J_goto 5 (by decide) dX0_canTake_80 ?_
              refine J_iload 4 rfl dX0_canTake_5 ?_
              refine J_aload_n 0 rfl dX0_canTake_7 ?_
              refine gf_0_11 (n3 _) dX0_canTake_8 ?_
              refine J_alen (v := 3) 5 (n14 _) rfl rfl rfl dX0_canTake_11 ?_
              refine J_icmp_ge 83 (by decide) dX0_canTake_12 (fun c265 => ?_) (fun c265 => ?_)
              rotate_left
              · exact absurd (by decide) c265
              refine J_iload_n 2 rfl dX0_canTake_83 ?_
              refine J_if_eq 95 (by decide) dX0_canTake_84 (fun c266 => ?_) (fun c266 => ?_)
              · skip
                refine J_iconst (v := 0) (by decide) dX0_canTake_95 ?_
                exact J_ireturn rfl (by first | rfl | assumption | simp [kb_nar]) dX0_canTake_96 (⟨by (try simp only [kb_0, kb_1, kb_n0, kb_n1, decide_eq_false_iff_not, decide_eq_true_eq, ne_eq, Classical.not_not] at *); first | (simp [kb, kb_0, kb_1, vr_n, vr_s, takF, may_1, may_2, havF_n, havF_s, shF_none, shF_some, *]; done) | (simp [kb, kb_0, kb_1, vr_n, vr_s, takF, may_1, may_2, havF_n, havF_s, shF_none, shF_some, *] <;> grind), rfl⟩) (by omega) (by omega)
              · skip
                refine J_iload_n 3 rfl dX0_canTake_87 ?_
                refine J_if_eq 95 (by decide) dX0_canTake_88 (fun c267 => ?_) (fun c267 => ?_)
                · exact absurd c267 (by decide)
                refine J_iconst (v := 1) (by decide) dX0_canTake_91 ?_
                refine J_goto 96 (by decide) dX0_canTake_92 ?_
                exact J_ireturn rfl (by first | rfl | assumption | simp [kb_nar]) dX0_canTake_96 (⟨by (try simp only [kb_0, kb_1, kb_n0, kb_n1, decide_eq_false_iff_not, decide_eq_true_eq, ne_eq, Classical.not_not] at *); first | (simp [kb, kb_0, kb_1, vr_n, vr_s, takF, may_1, may_2, havF_n, havF_s, shF_none, shF_some, *]; done) | (simp [kb, kb_0, kb_1, vr_n, vr_s, takF, may_1, may_2, havF_n, havF_s, shF_none, shF_some, *] <;> grind), rfl⟩) (by omega) (by omega)
        · skip
          have ma233 : a233 ∈ LP := hsp _ _ (by decide) o232
          refine J_topv (v' := .ref a233) (by first | rfl | (rw [o232]; rfl)) ?_
          refine J_astore (lv' := [(0, .ref (ka S 3 0)), (1, .ref a), (2, .int v), (3, .int 0), (4, .int 1), (5, .ref a233), (6, .int 0)]) (by decide) rfl dX0_canTake_22 ?_
          refine J_aload 5 rfl dX0_canTake_24 ?_
          refine J_ifnull dX0_canTake_26 ?_
          refine J_aload_n 1 rfl dX0_canTake_29 ?_
          refine J_aload 5 rfl dX0_canTake_30 ?_
          refine cv_0_25 (cells' := 0) (slots' := 0) dX0_canTake_32 (c_X5_canBreakInOn (by assumption) (by assumption)) (n20 (by assumption)) ⟨by decide, by decide⟩ rfl rfl (by decide) (by decide) (Nat.le_of_ble_eq_true rfl) (fun _ _ r268 => ?_) (fun _ _ h => h.elim)
          obtain ⟨rfl, rfl⟩ := r268
          refine J_eq (st' := [.int (kb (brkF I a a233))]) rfl rfl rfl ?_
          refine J_if_eq 42 (by decide) dX0_canTake_35 (fun c269 => ?_) (fun c269 => ?_)
          · skip
            refine J_iconst (v := 0) (by decide) dX0_canTake_42 ?_
            refine J_istore (lv' := [(0, .ref (ka S 3 0)), (1, .ref a), (2, .int v), (3, .int 0), (4, .int 1), (5, .ref a233), (6, .int 0)]) (by decide) rfl dX0_canTake_43 ?_
            refine J_iload 6 rfl dX0_canTake_45 ?_
            refine J_if_ne 61 (by decide) dX0_canTake_47 (fun c270 => ?_) (fun c270 => ?_)
            · exact absurd (by decide) c270
            refine J_aload 5 rfl dX0_canTake_50 ?_
            refine J_iload_n 2 rfl dX0_canTake_52 ?_
            refine cv_0_21 (cells' := 0) (slots' := 0) dX0_canTake_53 (c_X5_sharesStationWith (by assumption)) (n20 (by assumption)) ⟨by decide, by decide⟩ rfl rfl (by decide) (by decide) (Nat.le_of_ble_eq_true rfl) (fun _ _ r271 => ?_) (fun _ _ h => h.elim)
            obtain ⟨rfl, rfl⟩ := r271
            refine J_eq (st' := [.int (kb (shrF I a233 v))]) rfl rfl rfl ?_
            refine J_if_eq 61 (by decide) dX0_canTake_56 (fun c272 => ?_) (fun c272 => ?_)
            · skip
              refine J_iload 6 rfl dX0_canTake_61 ?_
              refine J_if_eq 77 (by decide) dX0_canTake_63 (fun c273 => ?_) (fun c273 => ?_)
              rotate_left
              · exact absurd (by decide) c273
              refine J_iinc (v := 2) (lv' := [(0, .ref (ka S 3 0)), (1, .ref a), (2, .int v), (3, .int 0), (4, .int 2), (5, .ref a233), (6, .int 0)]) 4 rfl (by decide) (by decide) rfl dX0_canTake_77 ?_
              refine J_goto 5 (by decide) dX0_canTake_80 ?_
              refine J_iload 4 rfl dX0_canTake_5 ?_
              refine J_aload_n 0 rfl dX0_canTake_7 ?_
              refine gf_0_11 (n3 _) dX0_canTake_8 ?_
              refine J_alen (v := 3) 5 (n14 _) rfl rfl rfl dX0_canTake_11 ?_
              refine J_icmp_ge 83 (by decide) dX0_canTake_12 (fun c275 => ?_) (fun c275 => ?_)
              · exact absurd c275 (by decide)
              refine J_aload_n 0 rfl dX0_canTake_15 ?_
              refine gf_0_11 (n3 _) dX0_canTake_16 ?_
              refine J_iload 4 rfl dX0_canTake_19 ?_
              refine J_aald 2 5 (n14 _) rfl rfl (vp_in_iff.mpr (by decide)) (by decide) dX0_canTake_21 ?_
              rcases opt_split (R 14 0 2) with o276 | ⟨a277, o276⟩
              · skip
                refine J_topv (v' := .null) (by first | rfl | (rw [o276]; rfl)) ?_
                refine J_astoreN (lv' := [(0, .ref (ka S 3 0)), (1, .ref a), (2, .int v), (3, .int 0), (4, .int 2), (5, .null), (6, .int 0)]) (by decide) rfl dX0_canTake_22 ?_
                refine J_aloadN 5 rfl dX0_canTake_24 ?_
                refine J_ifnullN 38 (by decide) dX0_canTake_26 ?_
                refine J_iconst (v := 1) (by decide) dX0_canTake_38 ?_
                refine J_goto 43 (by decide) dX0_canTake_39 ?_
                refine J_istore (lv' := [(0, .ref (ka S 3 0)), (1, .ref a), (2, .int v), (3, .int 0), (4, .int 2), (5, .null), (6, .int 1)]) (by decide) rfl dX0_canTake_43 ?_
                refine J_iload 6 rfl dX0_canTake_45 ?_
                refine J_if_ne 61 (by decide) dX0_canTake_47 (fun c278 => ?_) (fun c278 => ?_)
                rotate_left
                · exact absurd c278 (by decide)
                refine J_iload 6 rfl dX0_canTake_61 ?_
                refine J_if_eq 77 (by decide) dX0_canTake_63 (fun c279 => ?_) (fun c279 => ?_)
                · exact absurd c279 (by decide)
                refine J_aload_n 1 rfl dX0_canTake_66 ?_
                refine J_iload 4 rfl dX0_canTake_67 ?_
                refine cv_0_29 (cells' := 0) (slots' := 0) dX0_canTake_69 (c_X5_mayHave (by assumption)) (n20 (by assumption)) ⟨by decide, by decide⟩ rfl rfl (by decide) (by decide) (Nat.le_of_ble_eq_true rfl) (fun _ _ r280 => ?_) (fun _ _ h => h.elim)
                obtain ⟨rfl, rfl⟩ := r280
                refine J_eq (st' := [.int (kb (mayF I a 2))]) rfl rfl rfl ?_
                refine J_topv (v' := .int 1) (by first | rfl | (rw [may_2]; rfl)) ?_
                refine J_if_eq 77 (by decide) dX0_canTake_72 (fun c281 => ?_) (fun c281 => ?_)
                · exact absurd c281 (by decide)
                refine J_iconst (v := 1) (by decide) dX0_canTake_75 ?_
                refine J_istore_n (lv' := [(0, .ref (ka S 3 0)), (1, .ref a), (2, .int v), (3, .int 1), (4, .int 2), (5, .null), (6, .int 1)]) (by decide) rfl dX0_canTake_76 ?_
                refine J_iinc (v := 3) (lv' := [(0, .ref (ka S 3 0)), (1, .ref a), (2, .int v), (3, .int 1), (4, .int 3), (5, .null), (6, .int 1)]) 4 rfl (by decide) (by decide) rfl dX0_canTake_77 ?_
                refine J_goto 5 (by decide) dX0_canTake_80 ?_
                refine J_iload 4 rfl dX0_canTake_5 ?_
                refine J_aload_n 0 rfl dX0_canTake_7 ?_
                refine gf_0_11 (n3 _) dX0_canTake_8 ?_
                refine J_alen (v := 3) 5 (n14 _) rfl rfl rfl dX0_canTake_11 ?_
                refine J_icmp_ge 83 (by decide) dX0_canTake_12 (fun c283 => ?_) (fun c283 => ?_)
                rotate_left
                · exact absurd (by decide) c283
                refine J_iload_n 2 rfl dX0_canTake_83 ?_
                refine J_if_eq 95 (by decide) dX0_canTake_84 (fun c284 => ?_) (fun c284 => ?_)
                · skip
                  refine J_iconst (v := 0) (by decide) dX0_canTake_95 ?_
                  exact J_ireturn rfl (by first | rfl | assumption | simp [kb_nar]) dX0_canTake_96 (⟨by (try simp only [kb_0, kb_1, kb_n0, kb_n1, decide_eq_false_iff_not, decide_eq_true_eq, ne_eq, Classical.not_not] at *); first | (simp [kb, kb_0, kb_1, vr_n, vr_s, takF, may_1, may_2, havF_n, havF_s, shF_none, shF_some, *]; done) | (simp [kb, kb_0, kb_1, vr_n, vr_s, takF, may_1, may_2, havF_n, havF_s, shF_none, shF_some, *] <;> grind), rfl⟩) (by omega) (by omega)
                · skip
                  refine J_iload_n 3 rfl dX0_canTake_87 ?_
                  refine J_if_eq 95 (by decide) dX0_canTake_88 (fun c285 => ?_) (fun c285 => ?_)
                  · exact absurd c285 (by decide)
                  refine J_iconst (v := 1) (by decide) dX0_canTake_91 ?_
                  refine J_goto 96 (by decide) dX0_canTake_92 ?_
                  exact J_ireturn rfl (by first | rfl | assumption | simp [kb_nar]) dX0_canTake_96 (⟨by (try simp only [kb_0, kb_1, kb_n0, kb_n1, decide_eq_false_iff_not, decide_eq_true_eq, ne_eq, Classical.not_not] at *); first | (simp [kb, kb_0, kb_1, vr_n, vr_s, takF, may_1, may_2, havF_n, havF_s, shF_none, shF_some, *]; done) | (simp [kb, kb_0, kb_1, vr_n, vr_s, takF, may_1, may_2, havF_n, havF_s, shF_none, shF_some, *] <;> grind), rfl⟩) (by omega) (by omega)
              · skip
                have ma277 : a277 ∈ LP := hsp _ _ (by decide) o276
                refine J_topv (v' := .ref a277) (by first | rfl | (rw [o276]; rfl)) ?_
                refine J_astore (lv' := [(0, .ref (ka S 3 0)), (1, .ref a), (2, .int v), (3, .int 0), (4, .int 2), (5, .ref a277), (6, .int 0)]) (by decide) rfl dX0_canTake_22 ?_
                refine J_aload 5 rfl dX0_canTake_24 ?_
                refine J_ifnull dX0_canTake_26 ?_
                refine J_aload_n 1 rfl dX0_canTake_29 ?_
                refine J_aload 5 rfl dX0_canTake_30 ?_
                refine cv_0_25 (cells' := 0) (slots' := 0) dX0_canTake_32 (c_X5_canBreakInOn (by assumption) (by assumption)) (n20 (by assumption)) ⟨by decide, by decide⟩ rfl rfl (by decide) (by decide) (Nat.le_of_ble_eq_true rfl) (fun _ _ r286 => ?_) (fun _ _ h => h.elim)
                obtain ⟨rfl, rfl⟩ := r286
                refine J_eq (st' := [.int (kb (brkF I a a277))]) rfl rfl rfl ?_
                refine J_if_eq 42 (by decide) dX0_canTake_35 (fun c287 => ?_) (fun c287 => ?_)
                · skip
                  refine J_iconst (v := 0) (by decide) dX0_canTake_42 ?_
                  refine J_istore (lv' := [(0, .ref (ka S 3 0)), (1, .ref a), (2, .int v), (3, .int 0), (4, .int 2), (5, .ref a277), (6, .int 0)]) (by decide) rfl dX0_canTake_43 ?_
                  refine J_iload 6 rfl dX0_canTake_45 ?_
                  refine J_if_ne 61 (by decide) dX0_canTake_47 (fun c288 => ?_) (fun c288 => ?_)
                  · exact absurd (by decide) c288
                  refine J_aload 5 rfl dX0_canTake_50 ?_
                  refine J_iload_n 2 rfl dX0_canTake_52 ?_
                  refine cv_0_21 (cells' := 0) (slots' := 0) dX0_canTake_53 (c_X5_sharesStationWith (by assumption)) (n20 (by assumption)) ⟨by decide, by decide⟩ rfl rfl (by decide) (by decide) (Nat.le_of_ble_eq_true rfl) (fun _ _ r289 => ?_) (fun _ _ h => h.elim)
                  obtain ⟨rfl, rfl⟩ := r289
                  refine J_eq (st' := [.int (kb (shrF I a277 v))]) rfl rfl rfl ?_
                  refine J_if_eq 61 (by decide) dX0_canTake_56 (fun c290 => ?_) (fun c290 => ?_)
                  · skip
                    refine J_iload 6 rfl dX0_canTake_61 ?_
                    refine J_if_eq 77 (by decide) dX0_canTake_63 (fun c291 => ?_) (fun c291 => ?_)
                    rotate_left
                    · exact absurd (by decide) c291
                    refine J_iinc (v := 3) (lv' := [(0, .ref (ka S 3 0)), (1, .ref a), (2, .int v), (3, .int 0), (4, .int 3), (5, .ref a277), (6, .int 0)]) 4 rfl (by decide) (by decide) rfl dX0_canTake_77 ?_
                    refine J_goto 5 (by decide) dX0_canTake_80 ?_
                    refine J_iload 4 rfl dX0_canTake_5 ?_
                    refine J_aload_n 0 rfl dX0_canTake_7 ?_
                    refine gf_0_11 (n3 _) dX0_canTake_8 ?_
                    refine J_alen (v := 3) 5 (n14 _) rfl rfl rfl dX0_canTake_11 ?_
                    refine J_icmp_ge 83 (by decide) dX0_canTake_12 (fun c293 => ?_) (fun c293 => ?_)
                    rotate_left
                    · exact absurd (by decide) c293
                    refine J_iload_n 2 rfl dX0_canTake_83 ?_
                    refine J_if_eq 95 (by decide) dX0_canTake_84 (fun c294 => ?_) (fun c294 => ?_)
                    · skip
                      refine J_iconst (v := 0) (by decide) dX0_canTake_95 ?_
                      exact J_ireturn rfl (by first | rfl | assumption | simp [kb_nar]) dX0_canTake_96 (⟨by (try simp only [kb_0, kb_1, kb_n0, kb_n1, decide_eq_false_iff_not, decide_eq_true_eq, ne_eq, Classical.not_not] at *); first | (simp [kb, kb_0, kb_1, vr_n, vr_s, takF, may_1, may_2, havF_n, havF_s, shF_none, shF_some, *]; done) | (simp [kb, kb_0, kb_1, vr_n, vr_s, takF, may_1, may_2, havF_n, havF_s, shF_none, shF_some, *] <;> grind), rfl⟩) (by omega) (by omega)
                    · skip
                      refine J_iload_n 3 rfl dX0_canTake_87 ?_
                      refine J_if_eq 95 (by decide) dX0_canTake_88 (fun c295 => ?_) (fun c295 => ?_)
                      rotate_left
                      · exact absurd (by decide) c295
                      refine J_iconst (v := 0) (by decide) dX0_canTake_95 ?_
                      exact J_ireturn rfl (by first | rfl | assumption | simp [kb_nar]) dX0_canTake_96 (⟨by (try simp only [kb_0, kb_1, kb_n0, kb_n1, decide_eq_false_iff_not, decide_eq_true_eq, ne_eq, Classical.not_not] at *); first | (simp [kb, kb_0, kb_1, vr_n, vr_s, takF, may_1, may_2, havF_n, havF_s, shF_none, shF_some, *]; done) | (simp [kb, kb_0, kb_1, vr_n, vr_s, takF, may_1, may_2, havF_n, havF_s, shF_none, shF_some, *] <;> grind), rfl⟩) (by omega) (by omega)
                  · skip
                    refine J_iconst (v := 0) (by decide) dX0_canTake_59 ?_
                    exact J_ireturn rfl (by first | rfl | assumption | simp [kb_nar]) dX0_canTake_60 (⟨by (try simp only [kb_0, kb_1, kb_n0, kb_n1, decide_eq_false_iff_not, decide_eq_true_eq, ne_eq, Classical.not_not] at *); first | (simp [kb, kb_0, kb_1, vr_n, vr_s, takF, may_1, may_2, havF_n, havF_s, shF_none, shF_some, *]; done) | (simp [kb, kb_0, kb_1, vr_n, vr_s, takF, may_1, may_2, havF_n, havF_s, shF_none, shF_some, *] <;> grind), rfl⟩) (by omega) (by omega)
                · skip
                  refine J_iconst (v := 1) (by decide) dX0_canTake_38 ?_
                  refine J_goto 43 (by decide) dX0_canTake_39 ?_
                  refine J_istore (lv' := [(0, .ref (ka S 3 0)), (1, .ref a), (2, .int v), (3, .int 0), (4, .int 2), (5, .ref a277), (6, .int 1)]) (by decide) rfl dX0_canTake_43 ?_
                  refine J_iload 6 rfl dX0_canTake_45 ?_
                  refine J_if_ne 61 (by decide) dX0_canTake_47 (fun c296 => ?_) (fun c296 => ?_)
                  rotate_left
                  · exact absurd c296 (by decide)
                  refine J_iload 6 rfl dX0_canTake_61 ?_
                  refine J_if_eq 77 (by decide) dX0_canTake_63 (fun c297 => ?_) (fun c297 => ?_)
                  · exact absurd c297 (by decide)
                  refine J_aload_n 1 rfl dX0_canTake_66 ?_
                  refine J_iload 4 rfl dX0_canTake_67 ?_
                  refine cv_0_29 (cells' := 0) (slots' := 0) dX0_canTake_69 (c_X5_mayHave (by assumption)) (n20 (by assumption)) ⟨by decide, by decide⟩ rfl rfl (by decide) (by decide) (Nat.le_of_ble_eq_true rfl) (fun _ _ r298 => ?_) (fun _ _ h => h.elim)
                  obtain ⟨rfl, rfl⟩ := r298
                  refine J_eq (st' := [.int (kb (mayF I a 2))]) rfl rfl rfl ?_
                  refine J_topv (v' := .int 1) (by first | rfl | (rw [may_2]; rfl)) ?_
                  refine J_if_eq 77 (by decide) dX0_canTake_72 (fun c299 => ?_) (fun c299 => ?_)
                  · exact absurd c299 (by decide)
                  refine J_iconst (v := 1) (by decide) dX0_canTake_75 ?_
                  refine J_istore_n (lv' := [(0, .ref (ka S 3 0)), (1, .ref a), (2, .int v), (3, .int 1), (4, .int 2), (5, .ref a277), (6, .int 1)]) (by decide) rfl dX0_canTake_76 ?_
                  refine J_iinc (v := 3) (lv' := [(0, .ref (ka S 3 0)), (1, .ref a), (2, .int v), (3, .int 1), (4, .int 3), (5, .ref a277), (6, .int 1)]) 4 rfl (by decide) (by decide) rfl dX0_canTake_77 ?_
                  refine J_goto 5 (by decide) dX0_canTake_80 ?_
                  refine J_iload 4 rfl dX0_canTake_5 ?_
                  refine J_aload_n 0 rfl dX0_canTake_7 ?_
                  refine gf_0_11 (n3 _) dX0_canTake_8 ?_
                  refine J_alen (v := 3) 5 (n14 _) rfl rfl rfl dX0_canTake_11 ?_
                  refine J_icmp_ge 83 (by decide) dX0_canTake_12 (fun c301 => ?_) (fun c301 => ?_)
                  rotate_left
                  · exact absurd (by decide) c301
                  refine J_iload_n 2 rfl dX0_canTake_83 ?_
                  refine J_if_eq 95 (by decide) dX0_canTake_84 (fun c302 => ?_) (fun c302 => ?_)
                  · skip
                    refine J_iconst (v := 0) (by decide) dX0_canTake_95 ?_
                    exact J_ireturn rfl (by first | rfl | assumption | simp [kb_nar]) dX0_canTake_96 (⟨by (try simp only [kb_0, kb_1, kb_n0, kb_n1, decide_eq_false_iff_not, decide_eq_true_eq, ne_eq, Classical.not_not] at *); first | (simp [kb, kb_0, kb_1, vr_n, vr_s, takF, may_1, may_2, havF_n, havF_s, shF_none, shF_some, *]; done) | (simp [kb, kb_0, kb_1, vr_n, vr_s, takF, may_1, may_2, havF_n, havF_s, shF_none, shF_some, *] <;> grind), rfl⟩) (by omega) (by omega)
                  · skip
                    refine J_iload_n 3 rfl dX0_canTake_87 ?_
                    refine J_if_eq 95 (by decide) dX0_canTake_88 (fun c303 => ?_) (fun c303 => ?_)
                    · exact absurd c303 (by decide)
                    refine J_iconst (v := 1) (by decide) dX0_canTake_91 ?_
                    refine J_goto 96 (by decide) dX0_canTake_92 ?_
                    exact J_ireturn rfl (by first | rfl | assumption | simp [kb_nar]) dX0_canTake_96 (⟨by (try simp only [kb_0, kb_1, kb_n0, kb_n1, decide_eq_false_iff_not, decide_eq_true_eq, ne_eq, Classical.not_not] at *); first | (simp [kb, kb_0, kb_1, vr_n, vr_s, takF, may_1, may_2, havF_n, havF_s, shF_none, shF_some, *]; done) | (simp [kb, kb_0, kb_1, vr_n, vr_s, takF, may_1, may_2, havF_n, havF_s, shF_none, shF_some, *] <;> grind), rfl⟩) (by omega) (by omega)
            · skip
              refine J_iconst (v := 0) (by decide) dX0_canTake_59 ?_
              exact J_ireturn rfl (by first | rfl | assumption | simp [kb_nar]) dX0_canTake_60 (⟨by (try simp only [kb_0, kb_1, kb_n0, kb_n1, decide_eq_false_iff_not, decide_eq_true_eq, ne_eq, Classical.not_not] at *); first | (simp [kb, kb_0, kb_1, vr_n, vr_s, takF, may_1, may_2, havF_n, havF_s, shF_none, shF_some, *]; done) | (simp [kb, kb_0, kb_1, vr_n, vr_s, takF, may_1, may_2, havF_n, havF_s, shF_none, shF_some, *] <;> grind), rfl⟩) (by omega) (by omega)
          · skip
            refine J_iconst (v := 1) (by decide) dX0_canTake_38 ?_
            refine J_goto 43 (by decide) dX0_canTake_39 ?_
            refine J_istore (lv' := [(0, .ref (ka S 3 0)), (1, .ref a), (2, .int v), (3, .int 0), (4, .int 1), (5, .ref a233), (6, .int 1)]) (by decide) rfl dX0_canTake_43 ?_
            refine J_iload 6 rfl dX0_canTake_45 ?_
            refine J_if_ne 61 (by decide) dX0_canTake_47 (fun c304 => ?_) (fun c304 => ?_)
            rotate_left
            · exact absurd c304 (by decide)
            refine J_iload 6 rfl dX0_canTake_61 ?_
            refine J_if_eq 77 (by decide) dX0_canTake_63 (fun c305 => ?_) (fun c305 => ?_)
            · exact absurd c305 (by decide)
            refine J_aload_n 1 rfl dX0_canTake_66 ?_
            refine J_iload 4 rfl dX0_canTake_67 ?_
            refine cv_0_29 (cells' := 0) (slots' := 0) dX0_canTake_69 (c_X5_mayHave (by assumption)) (n20 (by assumption)) ⟨by decide, by decide⟩ rfl rfl (by decide) (by decide) (Nat.le_of_ble_eq_true rfl) (fun _ _ r306 => ?_) (fun _ _ h => h.elim)
            obtain ⟨rfl, rfl⟩ := r306
            refine J_eq (st' := [.int (kb (mayF I a 1))]) rfl rfl rfl ?_
            refine J_topv (v' := .int 1) (by first | rfl | (rw [may_1]; rfl)) ?_
            refine J_if_eq 77 (by decide) dX0_canTake_72 (fun c307 => ?_) (fun c307 => ?_)
            · exact absurd c307 (by decide)
            refine J_iconst (v := 1) (by decide) dX0_canTake_75 ?_
            refine J_istore_n (lv' := [(0, .ref (ka S 3 0)), (1, .ref a), (2, .int v), (3, .int 1), (4, .int 1), (5, .ref a233), (6, .int 1)]) (by decide) rfl dX0_canTake_76 ?_
            refine J_iinc (v := 2) (lv' := [(0, .ref (ka S 3 0)), (1, .ref a), (2, .int v), (3, .int 1), (4, .int 2), (5, .ref a233), (6, .int 1)]) 4 rfl (by decide) (by decide) rfl dX0_canTake_77 ?_
            refine J_goto 5 (by decide) dX0_canTake_80 ?_
            refine J_iload 4 rfl dX0_canTake_5 ?_
            refine J_aload_n 0 rfl dX0_canTake_7 ?_
            refine gf_0_11 (n3 _) dX0_canTake_8 ?_
            refine J_alen (v := 3) 5 (n14 _) rfl rfl rfl dX0_canTake_11 ?_
            refine J_icmp_ge 83 (by decide) dX0_canTake_12 (fun c309 => ?_) (fun c309 => ?_)
            · exact absurd c309 (by decide)
            refine J_aload_n 0 rfl dX0_canTake_15 ?_
            refine gf_0_11 (n3 _) dX0_canTake_16 ?_
            refine J_iload 4 rfl dX0_canTake_19 ?_
            refine J_aald 2 5 (n14 _) rfl rfl (vp_in_iff.mpr (by decide)) (by decide) dX0_canTake_21 ?_
            rcases opt_split (R 14 0 2) with o310 | ⟨a311, o310⟩
            · skip
              refine J_topv (v' := .null) (by first | rfl | (rw [o310]; rfl)) ?_
              refine J_astoreN (lv' := [(0, .ref (ka S 3 0)), (1, .ref a), (2, .int v), (3, .int 1), (4, .int 2), (5, .null), (6, .int 1)]) (by decide) rfl dX0_canTake_22 ?_
              refine J_aloadN 5 rfl dX0_canTake_24 ?_
              refine J_ifnullN 38 (by decide) dX0_canTake_26 ?_
              refine J_iconst (v := 1) (by decide) dX0_canTake_38 ?_
              refine J_goto 43 (by decide) dX0_canTake_39 ?_
              refine J_istore (lv' := [(0, .ref (ka S 3 0)), (1, .ref a), (2, .int v), (3, .int 1), (4, .int 2), (5, .null), (6, .int 1)]) (by decide) rfl dX0_canTake_43 ?_
              refine J_iload 6 rfl dX0_canTake_45 ?_
              refine J_if_ne 61 (by decide) dX0_canTake_47 (fun c312 => ?_) (fun c312 => ?_)
              rotate_left
              · exact absurd c312 (by decide)
              refine J_iload 6 rfl dX0_canTake_61 ?_
              refine J_if_eq 77 (by decide) dX0_canTake_63 (fun c313 => ?_) (fun c313 => ?_)
              · exact absurd c313 (by decide)
              refine J_aload_n 1 rfl dX0_canTake_66 ?_
              refine J_iload 4 rfl dX0_canTake_67 ?_
              refine cv_0_29 (cells' := 0) (slots' := 0) dX0_canTake_69 (c_X5_mayHave (by assumption)) (n20 (by assumption)) ⟨by decide, by decide⟩ rfl rfl (by decide) (by decide) (Nat.le_of_ble_eq_true rfl) (fun _ _ r314 => ?_) (fun _ _ h => h.elim)
              obtain ⟨rfl, rfl⟩ := r314
              refine J_eq (st' := [.int (kb (mayF I a 2))]) rfl rfl rfl ?_
              refine J_topv (v' := .int 1) (by first | rfl | (rw [may_2]; rfl)) ?_
              refine J_if_eq 77 (by decide) dX0_canTake_72 (fun c315 => ?_) (fun c315 => ?_)
              · exact absurd c315 (by decide)
              refine J_iconst (v := 1) (by decide) dX0_canTake_75 ?_
              refine J_istore_n (lv' := [(0, .ref (ka S 3 0)), (1, .ref a), (2, .int v), (3, .int 1), (4, .int 2), (5, .null), (6, .int 1)]) (by decide) rfl dX0_canTake_76 ?_
              refine J_iinc (v := 3) (lv' := [(0, .ref (ka S 3 0)), (1, .ref a), (2, .int v), (3, .int 1), (4, .int 3), (5, .null), (6, .int 1)]) 4 rfl (by decide) (by decide) rfl dX0_canTake_77 ?_
              refine J_goto 5 (by decide) dX0_canTake_80 ?_
              refine J_iload 4 rfl dX0_canTake_5 ?_
              refine J_aload_n 0 rfl dX0_canTake_7 ?_
              refine gf_0_11 (n3 _) dX0_canTake_8 ?_
              refine J_alen (v := 3) 5 (n14 _) rfl rfl rfl dX0_canTake_11 ?_
              refine J_icmp_ge 83 (by decide) dX0_canTake_12 (fun c317 => ?_) (fun c317 => ?_)
              rotate_left
              · exact absurd (by decide) c317
              refine J_iload_n 2 rfl dX0_canTake_83 ?_
              refine J_if_eq 95 (by decide) dX0_canTake_84 (fun c318 => ?_) (fun c318 => ?_)
              · skip
                refine J_iconst (v := 0) (by decide) dX0_canTake_95 ?_
                exact J_ireturn rfl (by first | rfl | assumption | simp [kb_nar]) dX0_canTake_96 (⟨by (try simp only [kb_0, kb_1, kb_n0, kb_n1, decide_eq_false_iff_not, decide_eq_true_eq, ne_eq, Classical.not_not] at *); first | (simp [kb, kb_0, kb_1, vr_n, vr_s, takF, may_1, may_2, havF_n, havF_s, shF_none, shF_some, *]; done) | (simp [kb, kb_0, kb_1, vr_n, vr_s, takF, may_1, may_2, havF_n, havF_s, shF_none, shF_some, *] <;> grind), rfl⟩) (by omega) (by omega)
              · skip
                refine J_iload_n 3 rfl dX0_canTake_87 ?_
                refine J_if_eq 95 (by decide) dX0_canTake_88 (fun c319 => ?_) (fun c319 => ?_)
                · exact absurd c319 (by decide)
                refine J_iconst (v := 1) (by decide) dX0_canTake_91 ?_
                refine J_goto 96 (by decide) dX0_canTake_92 ?_
                exact J_ireturn rfl (by first | rfl | assumption | simp [kb_nar]) dX0_canTake_96 (⟨by (try simp only [kb_0, kb_1, kb_n0, kb_n1, decide_eq_false_iff_not, decide_eq_true_eq, ne_eq, Classical.not_not] at *); first | (simp [kb, kb_0, kb_1, vr_n, vr_s, takF, may_1, may_2, havF_n, havF_s, shF_none, shF_some, *]; done) | (simp [kb, kb_0, kb_1, vr_n, vr_s, takF, may_1, may_2, havF_n, havF_s, shF_none, shF_some, *] <;> grind), rfl⟩) (by omega) (by omega)
            · skip
              have ma311 : a311 ∈ LP := hsp _ _ (by decide) o310
              refine J_topv (v' := .ref a311) (by first | rfl | (rw [o310]; rfl)) ?_
              refine J_astore (lv' := [(0, .ref (ka S 3 0)), (1, .ref a), (2, .int v), (3, .int 1), (4, .int 2), (5, .ref a311), (6, .int 1)]) (by decide) rfl dX0_canTake_22 ?_
              refine J_aload 5 rfl dX0_canTake_24 ?_
              refine J_ifnull dX0_canTake_26 ?_
              refine J_aload_n 1 rfl dX0_canTake_29 ?_
              refine J_aload 5 rfl dX0_canTake_30 ?_
              refine cv_0_25 (cells' := 0) (slots' := 0) dX0_canTake_32 (c_X5_canBreakInOn (by assumption) (by assumption)) (n20 (by assumption)) ⟨by decide, by decide⟩ rfl rfl (by decide) (by decide) (Nat.le_of_ble_eq_true rfl) (fun _ _ r320 => ?_) (fun _ _ h => h.elim)
              obtain ⟨rfl, rfl⟩ := r320
              refine J_eq (st' := [.int (kb (brkF I a a311))]) rfl rfl rfl ?_
              refine J_if_eq 42 (by decide) dX0_canTake_35 (fun c321 => ?_) (fun c321 => ?_)
              · skip
                refine J_iconst (v := 0) (by decide) dX0_canTake_42 ?_
                refine J_istore (lv' := [(0, .ref (ka S 3 0)), (1, .ref a), (2, .int v), (3, .int 1), (4, .int 2), (5, .ref a311), (6, .int 0)]) (by decide) rfl dX0_canTake_43 ?_
                refine J_iload 6 rfl dX0_canTake_45 ?_
                refine J_if_ne 61 (by decide) dX0_canTake_47 (fun c322 => ?_) (fun c322 => ?_)
                · exact absurd (by decide) c322
                refine J_aload 5 rfl dX0_canTake_50 ?_
                refine J_iload_n 2 rfl dX0_canTake_52 ?_
                refine cv_0_21 (cells' := 0) (slots' := 0) dX0_canTake_53 (c_X5_sharesStationWith (by assumption)) (n20 (by assumption)) ⟨by decide, by decide⟩ rfl rfl (by decide) (by decide) (Nat.le_of_ble_eq_true rfl) (fun _ _ r323 => ?_) (fun _ _ h => h.elim)
                obtain ⟨rfl, rfl⟩ := r323
                refine J_eq (st' := [.int (kb (shrF I a311 v))]) rfl rfl rfl ?_
                refine J_if_eq 61 (by decide) dX0_canTake_56 (fun c324 => ?_) (fun c324 => ?_)
                · skip
                  refine J_iload 6 rfl dX0_canTake_61 ?_
                  refine J_if_eq 77 (by decide) dX0_canTake_63 (fun c325 => ?_) (fun c325 => ?_)
                  rotate_left
                  · exact absurd (by decide) c325
                  refine J_iinc (v := 3) (lv' := [(0, .ref (ka S 3 0)), (1, .ref a), (2, .int v), (3, .int 1), (4, .int 3), (5, .ref a311), (6, .int 0)]) 4 rfl (by decide) (by decide) rfl dX0_canTake_77 ?_
                  refine J_goto 5 (by decide) dX0_canTake_80 ?_
                  refine J_iload 4 rfl dX0_canTake_5 ?_
                  refine J_aload_n 0 rfl dX0_canTake_7 ?_
                  refine gf_0_11 (n3 _) dX0_canTake_8 ?_
                  refine J_alen (v := 3) 5 (n14 _) rfl rfl rfl dX0_canTake_11 ?_
                  refine J_icmp_ge 83 (by decide) dX0_canTake_12 (fun c327 => ?_) (fun c327 => ?_)
                  rotate_left
                  · exact absurd (by decide) c327
                  refine J_iload_n 2 rfl dX0_canTake_83 ?_
                  refine J_if_eq 95 (by decide) dX0_canTake_84 (fun c328 => ?_) (fun c328 => ?_)
                  · skip
                    refine J_iconst (v := 0) (by decide) dX0_canTake_95 ?_
                    exact J_ireturn rfl (by first | rfl | assumption | simp [kb_nar]) dX0_canTake_96 (⟨by (try simp only [kb_0, kb_1, kb_n0, kb_n1, decide_eq_false_iff_not, decide_eq_true_eq, ne_eq, Classical.not_not] at *); first | (simp [kb, kb_0, kb_1, vr_n, vr_s, takF, may_1, may_2, havF_n, havF_s, shF_none, shF_some, *]; done) | (simp [kb, kb_0, kb_1, vr_n, vr_s, takF, may_1, may_2, havF_n, havF_s, shF_none, shF_some, *] <;> grind), rfl⟩) (by omega) (by omega)
                  · skip
                    refine J_iload_n 3 rfl dX0_canTake_87 ?_
                    refine J_if_eq 95 (by decide) dX0_canTake_88 (fun c329 => ?_) (fun c329 => ?_)
                    · exact absurd c329 (by decide)
                    refine J_iconst (v := 1) (by decide) dX0_canTake_91 ?_
                    refine J_goto 96 (by decide) dX0_canTake_92 ?_
                    exact J_ireturn rfl (by first | rfl | assumption | simp [kb_nar]) dX0_canTake_96 (⟨by (try simp only [kb_0, kb_1, kb_n0, kb_n1, decide_eq_false_iff_not, decide_eq_true_eq, ne_eq, Classical.not_not] at *); first | (simp [kb, kb_0, kb_1, vr_n, vr_s, takF, may_1, may_2, havF_n, havF_s, shF_none, shF_some, *]; done) | (simp [kb, kb_0, kb_1, vr_n, vr_s, takF, may_1, may_2, havF_n, havF_s, shF_none, shF_some, *] <;> grind), rfl⟩) (by omega) (by omega)
                · skip
                  refine J_iconst (v := 0) (by decide) dX0_canTake_59 ?_
                  exact J_ireturn rfl (by first | rfl | assumption | simp [kb_nar]) dX0_canTake_60 (⟨by (try simp only [kb_0, kb_1, kb_n0, kb_n1, decide_eq_false_iff_not, decide_eq_true_eq, ne_eq, Classical.not_not] at *); first | (simp [kb, kb_0, kb_1, vr_n, vr_s, takF, may_1, may_2, havF_n, havF_s, shF_none, shF_some, *]; done) | (simp [kb, kb_0, kb_1, vr_n, vr_s, takF, may_1, may_2, havF_n, havF_s, shF_none, shF_some, *] <;> grind), rfl⟩) (by omega) (by omega)
              · skip
                refine J_iconst (v := 1) (by decide) dX0_canTake_38 ?_
                refine J_goto 43 (by decide) dX0_canTake_39 ?_
                refine J_istore (lv' := [(0, .ref (ka S 3 0)), (1, .ref a), (2, .int v), (3, .int 1), (4, .int 2), (5, .ref a311), (6, .int 1)]) (by decide) rfl dX0_canTake_43 ?_
                refine J_iload 6 rfl dX0_canTake_45 ?_
                refine J_if_ne 61 (by decide) dX0_canTake_47 (fun c330 => ?_) (fun c330 => ?_)
                rotate_left
                · exact absurd c330 (by decide)
                refine J_iload 6 rfl dX0_canTake_61 ?_
                refine J_if_eq 77 (by decide) dX0_canTake_63 (fun c331 => ?_) (fun c331 => ?_)
                · exact absurd c331 (by decide)
                refine J_aload_n 1 rfl dX0_canTake_66 ?_
                refine J_iload 4 rfl dX0_canTake_67 ?_
                refine cv_0_29 (cells' := 0) (slots' := 0) dX0_canTake_69 (c_X5_mayHave (by assumption)) (n20 (by assumption)) ⟨by decide, by decide⟩ rfl rfl (by decide) (by decide) (Nat.le_of_ble_eq_true rfl) (fun _ _ r332 => ?_) (fun _ _ h => h.elim)
                obtain ⟨rfl, rfl⟩ := r332
                refine J_eq (st' := [.int (kb (mayF I a 2))]) rfl rfl rfl ?_
                refine J_topv (v' := .int 1) (by first | rfl | (rw [may_2]; rfl)) ?_
                refine J_if_eq 77 (by decide) dX0_canTake_72 (fun c333 => ?_) (fun c333 => ?_)
                · exact absurd c333 (by decide)
                refine J_iconst (v := 1) (by decide) dX0_canTake_75 ?_
                refine J_istore_n (lv' := [(0, .ref (ka S 3 0)), (1, .ref a), (2, .int v), (3, .int 1), (4, .int 2), (5, .ref a311), (6, .int 1)]) (by decide) rfl dX0_canTake_76 ?_
                refine J_iinc (v := 3) (lv' := [(0, .ref (ka S 3 0)), (1, .ref a), (2, .int v), (3, .int 1), (4, .int 3), (5, .ref a311), (6, .int 1)]) 4 rfl (by decide) (by decide) rfl dX0_canTake_77 ?_
                refine J_goto 5 (by decide) dX0_canTake_80 ?_
                refine J_iload 4 rfl dX0_canTake_5 ?_
                refine J_aload_n 0 rfl dX0_canTake_7 ?_
                refine gf_0_11 (n3 _) dX0_canTake_8 ?_
                refine J_alen (v := 3) 5 (n14 _) rfl rfl rfl dX0_canTake_11 ?_
                refine J_icmp_ge 83 (by decide) dX0_canTake_12 (fun c335 => ?_) (fun c335 => ?_)
                rotate_left
                · exact absurd (by decide) c335
                refine J_iload_n 2 rfl dX0_canTake_83 ?_
                refine J_if_eq 95 (by decide) dX0_canTake_84 (fun c336 => ?_) (fun c336 => ?_)
                · skip
                  refine J_iconst (v := 0) (by decide) dX0_canTake_95 ?_
                  exact J_ireturn rfl (by first | rfl | assumption | simp [kb_nar]) dX0_canTake_96 (⟨by (try simp only [kb_0, kb_1, kb_n0, kb_n1, decide_eq_false_iff_not, decide_eq_true_eq, ne_eq, Classical.not_not] at *); first | (simp [kb, kb_0, kb_1, vr_n, vr_s, takF, may_1, may_2, havF_n, havF_s, shF_none, shF_some, *]; done) | (simp [kb, kb_0, kb_1, vr_n, vr_s, takF, may_1, may_2, havF_n, havF_s, shF_none, shF_some, *] <;> grind), rfl⟩) (by omega) (by omega)
                · skip
                  refine J_iload_n 3 rfl dX0_canTake_87 ?_
                  refine J_if_eq 95 (by decide) dX0_canTake_88 (fun c337 => ?_) (fun c337 => ?_)
                  · exact absurd c337 (by decide)
                  refine J_iconst (v := 1) (by decide) dX0_canTake_91 ?_
                  refine J_goto 96 (by decide) dX0_canTake_92 ?_
                  exact J_ireturn rfl (by first | rfl | assumption | simp [kb_nar]) dX0_canTake_96 (⟨by (try simp only [kb_0, kb_1, kb_n0, kb_n1, decide_eq_false_iff_not, decide_eq_true_eq, ne_eq, Classical.not_not] at *); first | (simp [kb, kb_0, kb_1, vr_n, vr_s, takF, may_1, may_2, havF_n, havF_s, shF_none, shF_some, *]; done) | (simp [kb, kb_0, kb_1, vr_n, vr_s, takF, may_1, may_2, havF_n, havF_s, shF_none, shF_some, *] <;> grind), rfl⟩) (by omega) (by omega)
      · skip
        refine J_iconst (v := 0) (by decide) dX0_canTake_59 ?_
        exact J_ireturn rfl (by first | rfl | assumption | simp [kb_nar]) dX0_canTake_60 (⟨by (try simp only [kb_0, kb_1, kb_n0, kb_n1, decide_eq_false_iff_not, decide_eq_true_eq, ne_eq, Classical.not_not] at *); first | (simp [kb, kb_0, kb_1, vr_n, vr_s, takF, may_1, may_2, havF_n, havF_s, shF_none, shF_some, *]; done) | (simp [kb, kb_0, kb_1, vr_n, vr_s, takF, may_1, may_2, havF_n, havF_s, shF_none, shF_some, *] <;> grind), rfl⟩) (by omega) (by omega)
    · skip
      refine J_iconst (v := 1) (by decide) dX0_canTake_38 ?_
      refine J_goto 43 (by decide) dX0_canTake_39 ?_
      refine J_istore (lv' := [(0, .ref (ka S 3 0)), (1, .ref a), (2, .int v), (3, .int 0), (4, .int 0), (5, .ref a3), (6, .int 1)]) (by decide) rfl dX0_canTake_43 ?_
      refine J_iload 6 rfl dX0_canTake_45 ?_
      refine J_if_ne 61 (by decide) dX0_canTake_47 (fun c338 => ?_) (fun c338 => ?_)
      rotate_left
      · exact absurd c338 (by decide)
      refine J_iload 6 rfl dX0_canTake_61 ?_
      refine J_if_eq 77 (by decide) dX0_canTake_63 (fun c339 => ?_) (fun c339 => ?_)
      · exact absurd c339 (by decide)
      refine J_aload_n 1 rfl dX0_canTake_66 ?_
      refine J_iload 4 rfl dX0_canTake_67 ?_
      refine cv_0_29 (cells' := 0) (slots' := 0) dX0_canTake_69 (c_X5_mayHave (by assumption)) (n20 (by assumption)) ⟨by decide, by decide⟩ rfl rfl (by decide) (by decide) (Nat.le_of_ble_eq_true rfl) (fun _ _ r340 => ?_) (fun _ _ h => h.elim)
      obtain ⟨rfl, rfl⟩ := r340
      refine J_eq (st' := [.int (kb (mayF I a 0))]) rfl rfl rfl ?_
      refine J_if_eq 77 (by decide) dX0_canTake_72 (fun c341 => ?_) (fun c341 => ?_)
      · skip
        refine J_iinc (v := 1) (lv' := [(0, .ref (ka S 3 0)), (1, .ref a), (2, .int v), (3, .int 0), (4, .int 1), (5, .ref a3), (6, .int 1)]) 4 rfl (by decide) (by decide) rfl dX0_canTake_77 ?_
        refine J_goto 5 (by decide) dX0_canTake_80 ?_
        refine J_iload 4 rfl dX0_canTake_5 ?_
        refine J_aload_n 0 rfl dX0_canTake_7 ?_
        refine gf_0_11 (n3 _) dX0_canTake_8 ?_
        refine J_alen (v := 3) 5 (n14 _) rfl rfl rfl dX0_canTake_11 ?_
        refine J_icmp_ge 83 (by decide) dX0_canTake_12 (fun c343 => ?_) (fun c343 => ?_)
        · exact absurd c343 (by decide)
        refine J_aload_n 0 rfl dX0_canTake_15 ?_
        refine gf_0_11 (n3 _) dX0_canTake_16 ?_
        refine J_iload 4 rfl dX0_canTake_19 ?_
        refine J_aald 1 5 (n14 _) rfl rfl (vp_in_iff.mpr (by decide)) (by decide) dX0_canTake_21 ?_
        rcases opt_split (R 14 0 1) with o344 | ⟨a345, o344⟩
        · skip
          refine J_topv (v' := .null) (by first | rfl | (rw [o344]; rfl)) ?_
          refine J_astoreN (lv' := [(0, .ref (ka S 3 0)), (1, .ref a), (2, .int v), (3, .int 0), (4, .int 1), (5, .null), (6, .int 1)]) (by decide) rfl dX0_canTake_22 ?_
          refine J_aloadN 5 rfl dX0_canTake_24 ?_
          refine J_ifnullN 38 (by decide) dX0_canTake_26 ?_
          refine J_iconst (v := 1) (by decide) dX0_canTake_38 ?_
          refine J_goto 43 (by decide) dX0_canTake_39 ?_
          refine J_istore (lv' := [(0, .ref (ka S 3 0)), (1, .ref a), (2, .int v), (3, .int 0), (4, .int 1), (5, .null), (6, .int 1)]) (by decide) rfl dX0_canTake_43 ?_
          refine J_iload 6 rfl dX0_canTake_45 ?_
          refine J_if_ne 61 (by decide) dX0_canTake_47 (fun c346 => ?_) (fun c346 => ?_)
          rotate_left
          · exact absurd c346 (by decide)
          refine J_iload 6 rfl dX0_canTake_61 ?_
          refine J_if_eq 77 (by decide) dX0_canTake_63 (fun c347 => ?_) (fun c347 => ?_)
          · exact absurd c347 (by decide)
          refine J_aload_n 1 rfl dX0_canTake_66 ?_
          refine J_iload 4 rfl dX0_canTake_67 ?_
          refine cv_0_29 (cells' := 0) (slots' := 0) dX0_canTake_69 (c_X5_mayHave (by assumption)) (n20 (by assumption)) ⟨by decide, by decide⟩ rfl rfl (by decide) (by decide) (Nat.le_of_ble_eq_true rfl) (fun _ _ r348 => ?_) (fun _ _ h => h.elim)
          obtain ⟨rfl, rfl⟩ := r348
          refine J_eq (st' := [.int (kb (mayF I a 1))]) rfl rfl rfl ?_
          refine J_topv (v' := .int 1) (by first | rfl | (rw [may_1]; rfl)) ?_
          refine J_if_eq 77 (by decide) dX0_canTake_72 (fun c349 => ?_) (fun c349 => ?_)
          · exact absurd c349 (by decide)
          refine J_iconst (v := 1) (by decide) dX0_canTake_75 ?_
          refine J_istore_n (lv' := [(0, .ref (ka S 3 0)), (1, .ref a), (2, .int v), (3, .int 1), (4, .int 1), (5, .null), (6, .int 1)]) (by decide) rfl dX0_canTake_76 ?_
          refine J_iinc (v := 2) (lv' := [(0, .ref (ka S 3 0)), (1, .ref a), (2, .int v), (3, .int 1), (4, .int 2), (5, .null), (6, .int 1)]) 4 rfl (by decide) (by decide) rfl dX0_canTake_77 ?_
          refine J_goto 5 (by decide) dX0_canTake_80 ?_
          refine J_iload 4 rfl dX0_canTake_5 ?_
          refine J_aload_n 0 rfl dX0_canTake_7 ?_
          refine gf_0_11 (n3 _) dX0_canTake_8 ?_
          refine J_alen (v := 3) 5 (n14 _) rfl rfl rfl dX0_canTake_11 ?_
          refine J_icmp_ge 83 (by decide) dX0_canTake_12 (fun c351 => ?_) (fun c351 => ?_)
          · exact absurd c351 (by decide)
          refine J_aload_n 0 rfl dX0_canTake_15 ?_
          refine gf_0_11 (n3 _) dX0_canTake_16 ?_
          refine J_iload 4 rfl dX0_canTake_19 ?_
          refine J_aald 2 5 (n14 _) rfl rfl (vp_in_iff.mpr (by decide)) (by decide) dX0_canTake_21 ?_
          rcases opt_split (R 14 0 2) with o352 | ⟨a353, o352⟩
          · skip
            refine J_topv (v' := .null) (by first | rfl | (rw [o352]; rfl)) ?_
            refine J_astoreN (lv' := [(0, .ref (ka S 3 0)), (1, .ref a), (2, .int v), (3, .int 1), (4, .int 2), (5, .null), (6, .int 1)]) (by decide) rfl dX0_canTake_22 ?_
            refine J_aloadN 5 rfl dX0_canTake_24 ?_
            refine J_ifnullN 38 (by decide) dX0_canTake_26 ?_
            refine J_iconst (v := 1) (by decide) dX0_canTake_38 ?_
            refine J_goto 43 (by decide) dX0_canTake_39 ?_
            refine J_istore (lv' := [(0, .ref (ka S 3 0)), (1, .ref a), (2, .int v), (3, .int 1), (4, .int 2), (5, .null), (6, .int 1)]) (by decide) rfl dX0_canTake_43 ?_
            refine J_iload 6 rfl dX0_canTake_45 ?_
            refine J_if_ne 61 (by decide) dX0_canTake_47 (fun c354 => ?_) (fun c354 => ?_)
            rotate_left
            · exact absurd c354 (by decide)
            refine J_iload 6 rfl dX0_canTake_61 ?_
            refine J_if_eq 77 (by decide) dX0_canTake_63 (fun c355 => ?_) (fun c355 => ?_)
            · exact absurd c355 (by decide)
            refine J_aload_n 1 rfl dX0_canTake_66 ?_
            refine J_iload 4 rfl dX0_canTake_67 ?_
            refine cv_0_29 (cells' := 0) (slots' := 0) dX0_canTake_69 (c_X5_mayHave (by assumption)) (n20 (by assumption)) ⟨by decide, by decide⟩ rfl rfl (by decide) (by decide) (Nat.le_of_ble_eq_true rfl) (fun _ _ r356 => ?_) (fun _ _ h => h.elim)
            obtain ⟨rfl, rfl⟩ := r356
            refine J_eq (st' := [.int (kb (mayF I a 2))]) rfl rfl rfl ?_
            refine J_topv (v' := .int 1) (by first | rfl | (rw [may_2]; rfl)) ?_
            refine J_if_eq 77 (by decide) dX0_canTake_72 (fun c357 => ?_) (fun c357 => ?_)
            · exact absurd c357 (by decide)
            refine J_iconst (v := 1) (by decide) dX0_canTake_75 ?_
            refine J_istore_n (lv' := [(0, .ref (ka S 3 0)), (1, .ref a), (2, .int v), (3, .int 1), (4, .int 2), (5, .null), (6, .int 1)]) (by decide) rfl dX0_canTake_76 ?_
            refine J_iinc (v := 3) (lv' := [(0, .ref (ka S 3 0)), (1, .ref a), (2, .int v), (3, .int 1), (4, .int 3), (5, .null), (6, .int 1)]) 4 rfl (by decide) (by decide) rfl dX0_canTake_77 ?_
            refine J_goto 5 (by decide) dX0_canTake_80 ?_
            refine J_iload 4 rfl dX0_canTake_5 ?_
            refine J_aload_n 0 rfl dX0_canTake_7 ?_
            refine gf_0_11 (n3 _) dX0_canTake_8 ?_
            refine J_alen (v := 3) 5 (n14 _) rfl rfl rfl dX0_canTake_11 ?_
            refine J_icmp_ge 83 (by decide) dX0_canTake_12 (fun c359 => ?_) (fun c359 => ?_)
            rotate_left
            · exact absurd (by decide) c359
            refine J_iload_n 2 rfl dX0_canTake_83 ?_
            refine J_if_eq 95 (by decide) dX0_canTake_84 (fun c360 => ?_) (fun c360 => ?_)
            · skip
              refine J_iconst (v := 0) (by decide) dX0_canTake_95 ?_
              exact J_ireturn rfl (by first | rfl | assumption | simp [kb_nar]) dX0_canTake_96 (⟨by (try simp only [kb_0, kb_1, kb_n0, kb_n1, decide_eq_false_iff_not, decide_eq_true_eq, ne_eq, Classical.not_not] at *); first | (simp [kb, kb_0, kb_1, vr_n, vr_s, takF, may_1, may_2, havF_n, havF_s, shF_none, shF_some, *]; done) | (simp [kb, kb_0, kb_1, vr_n, vr_s, takF, may_1, may_2, havF_n, havF_s, shF_none, shF_some, *] <;> grind), rfl⟩) (by omega) (by omega)
            · skip
              refine J_iload_n 3 rfl dX0_canTake_87 ?_
              refine J_if_eq 95 (by decide) dX0_canTake_88 (fun c361 => ?_) (fun c361 => ?_)
              · exact absurd c361 (by decide)
              refine J_iconst (v := 1) (by decide) dX0_canTake_91 ?_
              refine J_goto 96 (by decide) dX0_canTake_92 ?_
              exact J_ireturn rfl (by first | rfl | assumption | simp [kb_nar]) dX0_canTake_96 (⟨by (try simp only [kb_0, kb_1, kb_n0, kb_n1, decide_eq_false_iff_not, decide_eq_true_eq, ne_eq, Classical.not_not] at *); first | (simp [kb, kb_0, kb_1, vr_n, vr_s, takF, may_1, may_2, havF_n, havF_s, shF_none, shF_some, *]; done) | (simp [kb, kb_0, kb_1, vr_n, vr_s, takF, may_1, may_2, havF_n, havF_s, shF_none, shF_some, *] <;> grind), rfl⟩) (by omega) (by omega)
          · skip
            have ma353 : a353 ∈ LP := hsp _ _ (by decide) o352
            refine J_topv (v' := .ref a353) (by first | rfl | (rw [o352]; rfl)) ?_
            refine J_astore (lv' := [(0, .ref (ka S 3 0)), (1, .ref a), (2, .int v), (3, .int 1), (4, .int 2), (5, .ref a353), (6, .int 1)]) (by decide) rfl dX0_canTake_22 ?_
            refine J_aload 5 rfl dX0_canTake_24 ?_
            refine J_ifnull dX0_canTake_26 ?_
            refine J_aload_n 1 rfl dX0_canTake_29 ?_
            refine J_aload 5 rfl dX0_canTake_30 ?_
            refine cv_0_25 (cells' := 0) (slots' := 0) dX0_canTake_32 (c_X5_canBreakInOn (by assumption) (by assumption)) (n20 (by assumption)) ⟨by decide, by decide⟩ rfl rfl (by decide) (by decide) (Nat.le_of_ble_eq_true rfl) (fun _ _ r362 => ?_) (fun _ _ h => h.elim)
            obtain ⟨rfl, rfl⟩ := r362
            refine J_eq (st' := [.int (kb (brkF I a a353))]) rfl rfl rfl ?_
            refine J_if_eq 42 (by decide) dX0_canTake_35 (fun c363 => ?_) (fun c363 => ?_)
            · skip
              refine J_iconst (v := 0) (by decide) dX0_canTake_42 ?_
              refine J_istore (lv' := [(0, .ref (ka S 3 0)), (1, .ref a), (2, .int v), (3, .int 1), (4, .int 2), (5, .ref a353), (6, .int 0)]) (by decide) rfl dX0_canTake_43 ?_
              refine J_iload 6 rfl dX0_canTake_45 ?_
              refine J_if_ne 61 (by decide) dX0_canTake_47 (fun c364 => ?_) (fun c364 => ?_)
              · exact absurd (by decide) c364
              refine J_aload 5 rfl dX0_canTake_50 ?_
              refine J_iload_n 2 rfl dX0_canTake_52 ?_
              refine cv_0_21 (cells' := 0) (slots' := 0) dX0_canTake_53 (c_X5_sharesStationWith (by assumption)) (n20 (by assumption)) ⟨by decide, by decide⟩ rfl rfl (by decide) (by decide) (Nat.le_of_ble_eq_true rfl) (fun _ _ r365 => ?_) (fun _ _ h => h.elim)
              obtain ⟨rfl, rfl⟩ := r365
              refine J_eq (st' := [.int (kb (shrF I a353 v))]) rfl rfl rfl ?_
              refine J_if_eq 61 (by decide) dX0_canTake_56 (fun c366 => ?_) (fun c366 => ?_)
              · skip
                refine J_iload 6 rfl dX0_canTake_61 ?_
                refine J_if_eq 77 (by decide) dX0_canTake_63 (fun c367 => ?_) (fun c367 => ?_)
                rotate_left
                · exact absurd (by decide) c367
                refine J_iinc (v := 3) (lv' := [(0, .ref (ka S 3 0)), (1, .ref a), (2, .int v), (3, .int 1), (4, .int 3), (5, .ref a353), (6, .int 0)]) 4 rfl (by decide) (by decide) rfl dX0_canTake_77 ?_
                refine J_goto 5 (by decide) dX0_canTake_80 ?_
                refine J_iload 4 rfl dX0_canTake_5 ?_
                refine J_aload_n 0 rfl dX0_canTake_7 ?_
                refine gf_0_11 (n3 _) dX0_canTake_8 ?_
                refine J_alen (v := 3) 5 (n14 _) rfl rfl rfl dX0_canTake_11 ?_
                refine J_icmp_ge 83 (by decide) dX0_canTake_12 (fun c369 => ?_) (fun c369 => ?_)
                rotate_left
                · exact absurd (by decide) c369
                refine J_iload_n 2 rfl dX0_canTake_83 ?_
                refine J_if_eq 95 (by decide) dX0_canTake_84 (fun c370 => ?_) (fun c370 => ?_)
                · skip
                  refine J_iconst (v := 0) (by decide) dX0_canTake_95 ?_
                  exact J_ireturn rfl (by first | rfl | assumption | simp [kb_nar]) dX0_canTake_96 (⟨by (try simp only [kb_0, kb_1, kb_n0, kb_n1, decide_eq_false_iff_not, decide_eq_true_eq, ne_eq, Classical.not_not] at *); first | (simp [kb, kb_0, kb_1, vr_n, vr_s, takF, may_1, may_2, havF_n, havF_s, shF_none, shF_some, *]; done) | (simp [kb, kb_0, kb_1, vr_n, vr_s, takF, may_1, may_2, havF_n, havF_s, shF_none, shF_some, *] <;> grind), rfl⟩) (by omega) (by omega)
                · skip
                  refine J_iload_n 3 rfl dX0_canTake_87 ?_
                  refine J_if_eq 95 (by decide) dX0_canTake_88 (fun c371 => ?_) (fun c371 => ?_)
                  · exact absurd c371 (by decide)
                  refine J_iconst (v := 1) (by decide) dX0_canTake_91 ?_
                  refine J_goto 96 (by decide) dX0_canTake_92 ?_
                  exact J_ireturn rfl (by first | rfl | assumption | simp [kb_nar]) dX0_canTake_96 (⟨by (try simp only [kb_0, kb_1, kb_n0, kb_n1, decide_eq_false_iff_not, decide_eq_true_eq, ne_eq, Classical.not_not] at *); first | (simp [kb, kb_0, kb_1, vr_n, vr_s, takF, may_1, may_2, havF_n, havF_s, shF_none, shF_some, *]; done) | (simp [kb, kb_0, kb_1, vr_n, vr_s, takF, may_1, may_2, havF_n, havF_s, shF_none, shF_some, *] <;> grind), rfl⟩) (by omega) (by omega)
              · skip
                refine J_iconst (v := 0) (by decide) dX0_canTake_59 ?_
                exact J_ireturn rfl (by first | rfl | assumption | simp [kb_nar]) dX0_canTake_60 (⟨by (try simp only [kb_0, kb_1, kb_n0, kb_n1, decide_eq_false_iff_not, decide_eq_true_eq, ne_eq, Classical.not_not] at *); first | (simp [kb, kb_0, kb_1, vr_n, vr_s, takF, may_1, may_2, havF_n, havF_s, shF_none, shF_some, *]; done) | (simp [kb, kb_0, kb_1, vr_n, vr_s, takF, may_1, may_2, havF_n, havF_s, shF_none, shF_some, *] <;> grind), rfl⟩) (by omega) (by omega)
            · skip
              refine J_iconst (v := 1) (by decide) dX0_canTake_38 ?_
              refine J_goto 43 (by decide) dX0_canTake_39 ?_
              refine J_istore (lv' := [(0, .ref (ka S 3 0)), (1, .ref a), (2, .int v), (3, .int 1), (4, .int 2), (5, .ref a353), (6, .int 1)]) (by decide) rfl dX0_canTake_43 ?_
              refine J_iload 6 rfl dX0_canTake_45 ?_
              refine J_if_ne 61 (by decide) dX0_canTake_47 (fun c372 => ?_) (fun c372 => ?_)
              rotate_left
              · exact absurd c372 (by decide)
              refine J_iload 6 rfl dX0_canTake_61 ?_
              refine J_if_eq 77 (by decide) dX0_canTake_63 (fun c373 => ?_) (fun c373 => ?_)
              · exact absurd c373 (by decide)
              refine J_aload_n 1 rfl dX0_canTake_66 ?_
              refine J_iload 4 rfl dX0_canTake_67 ?_
              refine cv_0_29 (cells' := 0) (slots' := 0) dX0_canTake_69 (c_X5_mayHave (by assumption)) (n20 (by assumption)) ⟨by decide, by decide⟩ rfl rfl (by decide) (by decide) (Nat.le_of_ble_eq_true rfl) (fun _ _ r374 => ?_) (fun _ _ h => h.elim)
              obtain ⟨rfl, rfl⟩ := r374
              refine J_eq (st' := [.int (kb (mayF I a 2))]) rfl rfl rfl ?_
              refine J_topv (v' := .int 1) (by first | rfl | (rw [may_2]; rfl)) ?_
              refine J_if_eq 77 (by decide) dX0_canTake_72 (fun c375 => ?_) (fun c375 => ?_)
              · exact absurd c375 (by decide)
              refine J_iconst (v := 1) (by decide) dX0_canTake_75 ?_
              refine J_istore_n (lv' := [(0, .ref (ka S 3 0)), (1, .ref a), (2, .int v), (3, .int 1), (4, .int 2), (5, .ref a353), (6, .int 1)]) (by decide) rfl dX0_canTake_76 ?_
              refine J_iinc (v := 3) (lv' := [(0, .ref (ka S 3 0)), (1, .ref a), (2, .int v), (3, .int 1), (4, .int 3), (5, .ref a353), (6, .int 1)]) 4 rfl (by decide) (by decide) rfl dX0_canTake_77 ?_
              refine J_goto 5 (by decide) dX0_canTake_80 ?_
              refine J_iload 4 rfl dX0_canTake_5 ?_
              refine J_aload_n 0 rfl dX0_canTake_7 ?_
              refine gf_0_11 (n3 _) dX0_canTake_8 ?_
              refine J_alen (v := 3) 5 (n14 _) rfl rfl rfl dX0_canTake_11 ?_
              refine J_icmp_ge 83 (by decide) dX0_canTake_12 (fun c377 => ?_) (fun c377 => ?_)
              rotate_left
              · exact absurd (by decide) c377
              refine J_iload_n 2 rfl dX0_canTake_83 ?_
              refine J_if_eq 95 (by decide) dX0_canTake_84 (fun c378 => ?_) (fun c378 => ?_)
              · skip
                refine J_iconst (v := 0) (by decide) dX0_canTake_95 ?_
                exact J_ireturn rfl (by first | rfl | assumption | simp [kb_nar]) dX0_canTake_96 (⟨by (try simp only [kb_0, kb_1, kb_n0, kb_n1, decide_eq_false_iff_not, decide_eq_true_eq, ne_eq, Classical.not_not] at *); first | (simp [kb, kb_0, kb_1, vr_n, vr_s, takF, may_1, may_2, havF_n, havF_s, shF_none, shF_some, *]; done) | (simp [kb, kb_0, kb_1, vr_n, vr_s, takF, may_1, may_2, havF_n, havF_s, shF_none, shF_some, *] <;> grind), rfl⟩) (by omega) (by omega)
              · skip
                refine J_iload_n 3 rfl dX0_canTake_87 ?_
                refine J_if_eq 95 (by decide) dX0_canTake_88 (fun c379 => ?_) (fun c379 => ?_)
                · exact absurd c379 (by decide)
                refine J_iconst (v := 1) (by decide) dX0_canTake_91 ?_
                refine J_goto 96 (by decide) dX0_canTake_92 ?_
                exact J_ireturn rfl (by first | rfl | assumption | simp [kb_nar]) dX0_canTake_96 (⟨by (try simp only [kb_0, kb_1, kb_n0, kb_n1, decide_eq_false_iff_not, decide_eq_true_eq, ne_eq, Classical.not_not] at *); first | (simp [kb, kb_0, kb_1, vr_n, vr_s, takF, may_1, may_2, havF_n, havF_s, shF_none, shF_some, *]; done) | (simp [kb, kb_0, kb_1, vr_n, vr_s, takF, may_1, may_2, havF_n, havF_s, shF_none, shF_some, *] <;> grind), rfl⟩) (by omega) (by omega)
        · skip
          have ma345 : a345 ∈ LP := hsp _ _ (by decide) o344
          refine J_topv (v' := .ref a345) (by first | rfl | (rw [o344]; rfl)) ?_
          refine J_astore (lv' := [(0, .ref (ka S 3 0)), (1, .ref a), (2, .int v), (3, .int 0), (4, .int 1), (5, .ref a345), (6, .int 1)]) (by decide) rfl dX0_canTake_22 ?_
          refine J_aload 5 rfl dX0_canTake_24 ?_
          refine J_ifnull dX0_canTake_26 ?_
          refine J_aload_n 1 rfl dX0_canTake_29 ?_
          refine J_aload 5 rfl dX0_canTake_30 ?_
          refine cv_0_25 (cells' := 0) (slots' := 0) dX0_canTake_32 (c_X5_canBreakInOn (by assumption) (by assumption)) (n20 (by assumption)) ⟨by decide, by decide⟩ rfl rfl (by decide) (by decide) (Nat.le_of_ble_eq_true rfl) (fun _ _ r380 => ?_) (fun _ _ h => h.elim)
          obtain ⟨rfl, rfl⟩ := r380
          refine J_eq (st' := [.int (kb (brkF I a a345))]) rfl rfl rfl ?_
          refine J_if_eq 42 (by decide) dX0_canTake_35 (fun c381 => ?_) (fun c381 => ?_)
          · skip
            refine J_iconst (v := 0) (by decide) dX0_canTake_42 ?_
            refine J_istore (lv' := [(0, .ref (ka S 3 0)), (1, .ref a), (2, .int v), (3, .int 0), (4, .int 1), (5, .ref a345), (6, .int 0)]) (by decide) rfl dX0_canTake_43 ?_
            refine J_iload 6 rfl dX0_canTake_45 ?_
            refine J_if_ne 61 (by decide) dX0_canTake_47 (fun c382 => ?_) (fun c382 => ?_)
            · exact absurd (by decide) c382
            refine J_aload 5 rfl dX0_canTake_50 ?_
            refine J_iload_n 2 rfl dX0_canTake_52 ?_
            refine cv_0_21 (cells' := 0) (slots' := 0) dX0_canTake_53 (c_X5_sharesStationWith (by assumption)) (n20 (by assumption)) ⟨by decide, by decide⟩ rfl rfl (by decide) (by decide) (Nat.le_of_ble_eq_true rfl) (fun _ _ r383 => ?_) (fun _ _ h => h.elim)
            obtain ⟨rfl, rfl⟩ := r383
            refine J_eq (st' := [.int (kb (shrF I a345 v))]) rfl rfl rfl ?_
            refine J_if_eq 61 (by decide) dX0_canTake_56 (fun c384 => ?_) (fun c384 => ?_)
            · skip
              refine J_iload 6 rfl dX0_canTake_61 ?_
              refine J_if_eq 77 (by decide) dX0_canTake_63 (fun c385 => ?_) (fun c385 => ?_)
              rotate_left
              · exact absurd (by decide) c385
              refine J_iinc (v := 2) (lv' := [(0, .ref (ka S 3 0)), (1, .ref a), (2, .int v), (3, .int 0), (4, .int 2), (5, .ref a345), (6, .int 0)]) 4 rfl (by decide) (by decide) rfl dX0_canTake_77 ?_
              refine J_goto 5 (by decide) dX0_canTake_80 ?_
              refine J_iload 4 rfl dX0_canTake_5 ?_
              refine J_aload_n 0 rfl dX0_canTake_7 ?_
              refine gf_0_11 (n3 _) dX0_canTake_8 ?_
              refine J_alen (v := 3) 5 (n14 _) rfl rfl rfl dX0_canTake_11 ?_
              refine J_icmp_ge 83 (by decide) dX0_canTake_12 (fun c387 => ?_) (fun c387 => ?_)
              · exact absurd c387 (by decide)
              refine J_aload_n 0 rfl dX0_canTake_15 ?_
              refine gf_0_11 (n3 _) dX0_canTake_16 ?_
              refine J_iload 4 rfl dX0_canTake_19 ?_
              refine J_aald 2 5 (n14 _) rfl rfl (vp_in_iff.mpr (by decide)) (by decide) dX0_canTake_21 ?_
              rcases opt_split (R 14 0 2) with o388 | ⟨a389, o388⟩
              · skip
                refine J_topv (v' := .null) (by first | rfl | (rw [o388]; rfl)) ?_
                refine J_astoreN (lv' := [(0, .ref (ka S 3 0)), (1, .ref a), (2, .int v), (3, .int 0), (4, .int 2), (5, .null), (6, .int 0)]) (by decide) rfl dX0_canTake_22 ?_
                refine J_aloadN 5 rfl dX0_canTake_24 ?_
                refine J_ifnullN 38 (by decide) dX0_canTake_26 ?_
                refine J_iconst (v := 1) (by decide) dX0_canTake_38 ?_
                refine J_goto 43 (by decide) dX0_canTake_39 ?_
                refine J_istore (lv' := [(0, .ref (ka S 3 0)), (1, .ref a), (2, .int v), (3, .int 0), (4, .int 2), (5, .null), (6, .int 1)]) (by decide) rfl dX0_canTake_43 ?_
                refine J_iload 6 rfl dX0_canTake_45 ?_
                refine J_if_ne 61 (by decide) dX0_canTake_47 (fun c390 => ?_) (fun c390 => ?_)
                rotate_left
                · exact absurd c390 (by decide)
                refine J_iload 6 rfl dX0_canTake_61 ?_
                refine J_if_eq 77 (by decide) dX0_canTake_63 (fun c391 => ?_) (fun c391 => ?_)
                · exact absurd c391 (by decide)
                refine J_aload_n 1 rfl dX0_canTake_66 ?_
                refine J_iload 4 rfl dX0_canTake_67 ?_
                refine cv_0_29 (cells' := 0) (slots' := 0) dX0_canTake_69 (c_X5_mayHave (by assumption)) (n20 (by assumption)) ⟨by decide, by decide⟩ rfl rfl (by decide) (by decide) (Nat.le_of_ble_eq_true rfl) (fun _ _ r392 => ?_) (fun _ _ h => h.elim)
                obtain ⟨rfl, rfl⟩ := r392
                refine J_eq (st' := [.int (kb (mayF I a 2))]) rfl rfl rfl ?_
                refine J_topv (v' := .int 1) (by first | rfl | (rw [may_2]; rfl)) ?_
                refine J_if_eq 77 (by decide) dX0_canTake_72 (fun c393 => ?_) (fun c393 => ?_)
                · exact absurd c393 (by decide)
                refine J_iconst (v := 1) (by decide) dX0_canTake_75 ?_
                refine J_istore_n (lv' := [(0, .ref (ka S 3 0)), (1, .ref a), (2, .int v), (3, .int 1), (4, .int 2), (5, .null), (6, .int 1)]) (by decide) rfl dX0_canTake_76 ?_
                refine J_iinc (v := 3) (lv' := [(0, .ref (ka S 3 0)), (1, .ref a), (2, .int v), (3, .int 1), (4, .int 3), (5, .null), (6, .int 1)]) 4 rfl (by decide) (by decide) rfl dX0_canTake_77 ?_
                refine J_goto 5 (by decide) dX0_canTake_80 ?_
                refine J_iload 4 rfl dX0_canTake_5 ?_
                refine J_aload_n 0 rfl dX0_canTake_7 ?_
                refine gf_0_11 (n3 _) dX0_canTake_8 ?_
                refine J_alen (v := 3) 5 (n14 _) rfl rfl rfl dX0_canTake_11 ?_
                refine J_icmp_ge 83 (by decide) dX0_canTake_12 (fun c395 => ?_) (fun c395 => ?_)
                rotate_left
                · exact absurd (by decide) c395
                refine J_iload_n 2 rfl dX0_canTake_83 ?_
                refine J_if_eq 95 (by decide) dX0_canTake_84 (fun c396 => ?_) (fun c396 => ?_)
                · skip
                  refine J_iconst (v := 0) (by decide) dX0_canTake_95 ?_
                  exact J_ireturn rfl (by first | rfl | assumption | simp [kb_nar]) dX0_canTake_96 (⟨by (try simp only [kb_0, kb_1, kb_n0, kb_n1, decide_eq_false_iff_not, decide_eq_true_eq, ne_eq, Classical.not_not] at *); first | (simp [kb, kb_0, kb_1, vr_n, vr_s, takF, may_1, may_2, havF_n, havF_s, shF_none, shF_some, *]; done) | (simp [kb, kb_0, kb_1, vr_n, vr_s, takF, may_1, may_2, havF_n, havF_s, shF_none, shF_some, *] <;> grind), rfl⟩) (by omega) (by omega)
                · skip
                  refine J_iload_n 3 rfl dX0_canTake_87 ?_
                  refine J_if_eq 95 (by decide) dX0_canTake_88 (fun c397 => ?_) (fun c397 => ?_)
                  · exact absurd c397 (by decide)
                  refine J_iconst (v := 1) (by decide) dX0_canTake_91 ?_
                  refine J_goto 96 (by decide) dX0_canTake_92 ?_
                  exact J_ireturn rfl (by first | rfl | assumption | simp [kb_nar]) dX0_canTake_96 (⟨by (try simp only [kb_0, kb_1, kb_n0, kb_n1, decide_eq_false_iff_not, decide_eq_true_eq, ne_eq, Classical.not_not] at *); first | (simp [kb, kb_0, kb_1, vr_n, vr_s, takF, may_1, may_2, havF_n, havF_s, shF_none, shF_some, *]; done) | (simp [kb, kb_0, kb_1, vr_n, vr_s, takF, may_1, may_2, havF_n, havF_s, shF_none, shF_some, *] <;> grind), rfl⟩) (by omega) (by omega)
              · skip
                have ma389 : a389 ∈ LP := hsp _ _ (by decide) o388
                refine J_topv (v' := .ref a389) (by first | rfl | (rw [o388]; rfl)) ?_
                refine J_astore (lv' := [(0, .ref (ka S 3 0)), (1, .ref a), (2, .int v), (3, .int 0), (4, .int 2), (5, .ref a389), (6, .int 0)]) (by decide) rfl dX0_canTake_22 ?_
                refine J_aload 5 rfl dX0_canTake_24 ?_
                refine J_ifnull dX0_canTake_26 ?_
                refine J_aload_n 1 rfl dX0_canTake_29 ?_
                refine J_aload 5 rfl dX0_canTake_30 ?_
                refine cv_0_25 (cells' := 0) (slots' := 0) dX0_canTake_32 (c_X5_canBreakInOn (by assumption) (by assumption)) (n20 (by assumption)) ⟨by decide, by decide⟩ rfl rfl (by decide) (by decide) (Nat.le_of_ble_eq_true rfl) (fun _ _ r398 => ?_) (fun _ _ h => h.elim)
                obtain ⟨rfl, rfl⟩ := r398
                refine J_eq (st' := [.int (kb (brkF I a a389))]) rfl rfl rfl ?_
                refine J_if_eq 42 (by decide) dX0_canTake_35 (fun c399 => ?_) (fun c399 => ?_)
                · skip
                  refine J_iconst (v := 0) (by decide) dX0_canTake_42 ?_
                  refine J_istore (lv' := [(0, .ref (ka S 3 0)), (1, .ref a), (2, .int v), (3, .int 0), (4, .int 2), (5, .ref a389), (6, .int 0)]) (by decide) rfl dX0_canTake_43 ?_
                  refine J_iload 6 rfl dX0_canTake_45 ?_
                  refine J_if_ne 61 (by decide) dX0_canTake_47 (fun c400 => ?_) (fun c400 => ?_)
                  · exact absurd (by decide) c400
                  refine J_aload 5 rfl dX0_canTake_50 ?_
                  refine J_iload_n 2 rfl dX0_canTake_52 ?_
                  refine cv_0_21 (cells' := 0) (slots' := 0) dX0_canTake_53 (c_X5_sharesStationWith (by assumption)) (n20 (by assumption)) ⟨by decide, by decide⟩ rfl rfl (by decide) (by decide) (Nat.le_of_ble_eq_true rfl) (fun _ _ r401 => ?_) (fun _ _ h => h.elim)
                  obtain ⟨rfl, rfl⟩ := r401
                  refine J_eq (st' := [.int (kb (shrF I a389 v))]) rfl rfl rfl ?_
                  refine J_if_eq 61 (by decide) dX0_canTake_56 (fun c402 => ?_) (fun c402 => ?_)
                  · skip
                    refine J_iload 6 rfl dX0_canTake_61 ?_
                    refine J_if_eq 77 (by decide) dX0_canTake_63 (fun c403 => ?_) (fun c403 => ?_)
                    rotate_left
                    · exact absurd (by decide) c403
                    refine J_iinc (v := 3) (lv' := [(0, .ref (ka S 3 0)), (1, .ref a), (2, .int v), (3, .int 0), (4, .int 3), (5, .ref a389), (6, .int 0)]) 4 rfl (by decide) (by decide) rfl dX0_canTake_77 ?_
                    refine J_goto 5 (by decide) dX0_canTake_80 ?_
                    refine J_iload 4 rfl dX0_canTake_5 ?_
                    refine J_aload_n 0 rfl dX0_canTake_7 ?_
                    refine gf_0_11 (n3 _) dX0_canTake_8 ?_
                    refine J_alen (v := 3) 5 (n14 _) rfl rfl rfl dX0_canTake_11 ?_
                    refine J_icmp_ge 83 (by decide) dX0_canTake_12 (fun c405 => ?_) (fun c405 => ?_)
                    rotate_left
                    · exact absurd (by decide) c405
                    refine J_iload_n 2 rfl dX0_canTake_83 ?_
                    refine J_if_eq 95 (by decide) dX0_canTake_84 (fun c406 => ?_) (fun c406 => ?_)
                    · skip
                      refine J_iconst (v := 0) (by decide) dX0_canTake_95 ?_
                      exact J_ireturn rfl (by first | rfl | assumption | simp [kb_nar]) dX0_canTake_96 (⟨by (try simp only [kb_0, kb_1, kb_n0, kb_n1, decide_eq_false_iff_not, decide_eq_true_eq, ne_eq, Classical.not_not] at *); first | (simp [kb, kb_0, kb_1, vr_n, vr_s, takF, may_1, may_2, havF_n, havF_s, shF_none, shF_some, *]; done) | (simp [kb, kb_0, kb_1, vr_n, vr_s, takF, may_1, may_2, havF_n, havF_s, shF_none, shF_some, *] <;> grind), rfl⟩) (by omega) (by omega)
                    · skip
                      refine J_iload_n 3 rfl dX0_canTake_87 ?_
                      refine J_if_eq 95 (by decide) dX0_canTake_88 (fun c407 => ?_) (fun c407 => ?_)
                      rotate_left
                      · exact absurd (by decide) c407
                      refine J_iconst (v := 0) (by decide) dX0_canTake_95 ?_
                      exact J_ireturn rfl (by first | rfl | assumption | simp [kb_nar]) dX0_canTake_96 (⟨by (try simp only [kb_0, kb_1, kb_n0, kb_n1, decide_eq_false_iff_not, decide_eq_true_eq, ne_eq, Classical.not_not] at *); first | (simp [kb, kb_0, kb_1, vr_n, vr_s, takF, may_1, may_2, havF_n, havF_s, shF_none, shF_some, *]; done) | (simp [kb, kb_0, kb_1, vr_n, vr_s, takF, may_1, may_2, havF_n, havF_s, shF_none, shF_some, *] <;> grind), rfl⟩) (by omega) (by omega)
                  · skip
                    refine J_iconst (v := 0) (by decide) dX0_canTake_59 ?_
                    exact J_ireturn rfl (by first | rfl | assumption | simp [kb_nar]) dX0_canTake_60 (⟨by (try simp only [kb_0, kb_1, kb_n0, kb_n1, decide_eq_false_iff_not, decide_eq_true_eq, ne_eq, Classical.not_not] at *); first | (simp [kb, kb_0, kb_1, vr_n, vr_s, takF, may_1, may_2, havF_n, havF_s, shF_none, shF_some, *]; done) | (simp [kb, kb_0, kb_1, vr_n, vr_s, takF, may_1, may_2, havF_n, havF_s, shF_none, shF_some, *] <;> grind), rfl⟩) (by omega) (by omega)
                · skip
                  refine J_iconst (v := 1) (by decide) dX0_canTake_38 ?_
                  refine J_goto 43 (by decide) dX0_canTake_39 ?_
                  refine J_istore (lv' := [(0, .ref (ka S 3 0)), (1, .ref a), (2, .int v), (3, .int 0), (4, .int 2), (5, .ref a389), (6, .int 1)]) (by decide) rfl dX0_canTake_43 ?_
                  refine J_iload 6 rfl dX0_canTake_45 ?_
                  refine J_if_ne 61 (by decide) dX0_canTake_47 (fun c408 => ?_) (fun c408 => ?_)
                  rotate_left
                  · exact absurd c408 (by decide)
                  refine J_iload 6 rfl dX0_canTake_61 ?_
                  refine J_if_eq 77 (by decide) dX0_canTake_63 (fun c409 => ?_) (fun c409 => ?_)
                  · exact absurd c409 (by decide)
                  refine J_aload_n 1 rfl dX0_canTake_66 ?_
                  refine J_iload 4 rfl dX0_canTake_67 ?_
                  refine cv_0_29 (cells' := 0) (slots' := 0) dX0_canTake_69 (c_X5_mayHave (by assumption)) (n20 (by assumption)) ⟨by decide, by decide⟩ rfl rfl (by decide) (by decide) (Nat.le_of_ble_eq_true rfl) (fun _ _ r410 => ?_) (fun _ _ h => h.elim)
                  obtain ⟨rfl, rfl⟩ := r410
                  refine J_eq (st' := [.int (kb (mayF I a 2))]) rfl rfl rfl ?_
                  refine J_topv (v' := .int 1) (by first | rfl | (rw [may_2]; rfl)) ?_
                  refine J_if_eq 77 (by decide) dX0_canTake_72 (fun c411 => ?_) (fun c411 => ?_)
                  · exact absurd c411 (by decide)
                  refine J_iconst (v := 1) (by decide) dX0_canTake_75 ?_
                  refine J_istore_n (lv' := [(0, .ref (ka S 3 0)), (1, .ref a), (2, .int v), (3, .int 1), (4, .int 2), (5, .ref a389), (6, .int 1)]) (by decide) rfl dX0_canTake_76 ?_
                  refine J_iinc (v := 3) (lv' := [(0, .ref (ka S 3 0)), (1, .ref a), (2, .int v), (3, .int 1), (4, .int 3), (5, .ref a389), (6, .int 1)]) 4 rfl (by decide) (by decide) rfl dX0_canTake_77 ?_
                  refine J_goto 5 (by decide) dX0_canTake_80 ?_
                  refine J_iload 4 rfl dX0_canTake_5 ?_
                  refine J_aload_n 0 rfl dX0_canTake_7 ?_
                  refine gf_0_11 (n3 _) dX0_canTake_8 ?_
                  refine J_alen (v := 3) 5 (n14 _) rfl rfl rfl dX0_canTake_11 ?_
                  refine J_icmp_ge 83 (by decide) dX0_canTake_12 (fun c413 => ?_) (fun c413 => ?_)
                  rotate_left
                  · exact absurd (by decide) c413
                  refine J_iload_n 2 rfl dX0_canTake_83 ?_
                  refine J_if_eq 95 (by decide) dX0_canTake_84 (fun c414 => ?_) (fun c414 => ?_)
                  · skip
                    refine J_iconst (v := 0) (by decide) dX0_canTake_95 ?_
                    exact J_ireturn rfl (by first | rfl | assumption | simp [kb_nar]) dX0_canTake_96 (⟨by (try simp only [kb_0, kb_1, kb_n0, kb_n1, decide_eq_false_iff_not, decide_eq_true_eq, ne_eq, Classical.not_not] at *); first | (simp [kb, kb_0, kb_1, vr_n, vr_s, takF, may_1, may_2, havF_n, havF_s, shF_none, shF_some, *]; done) | (simp [kb, kb_0, kb_1, vr_n, vr_s, takF, may_1, may_2, havF_n, havF_s, shF_none, shF_some, *] <;> grind), rfl⟩) (by omega) (by omega)
                  · skip
                    refine J_iload_n 3 rfl dX0_canTake_87 ?_
                    refine J_if_eq 95 (by decide) dX0_canTake_88 (fun c415 => ?_) (fun c415 => ?_)
                    · exact absurd c415 (by decide)
                    refine J_iconst (v := 1) (by decide) dX0_canTake_91 ?_
                    refine J_goto 96 (by decide) dX0_canTake_92 ?_
                    exact J_ireturn rfl (by first | rfl | assumption | simp [kb_nar]) dX0_canTake_96 (⟨by (try simp only [kb_0, kb_1, kb_n0, kb_n1, decide_eq_false_iff_not, decide_eq_true_eq, ne_eq, Classical.not_not] at *); first | (simp [kb, kb_0, kb_1, vr_n, vr_s, takF, may_1, may_2, havF_n, havF_s, shF_none, shF_some, *]; done) | (simp [kb, kb_0, kb_1, vr_n, vr_s, takF, may_1, may_2, havF_n, havF_s, shF_none, shF_some, *] <;> grind), rfl⟩) (by omega) (by omega)
            · skip
              refine J_iconst (v := 0) (by decide) dX0_canTake_59 ?_
              exact J_ireturn rfl (by first | rfl | assumption | simp [kb_nar]) dX0_canTake_60 (⟨by (try simp only [kb_0, kb_1, kb_n0, kb_n1, decide_eq_false_iff_not, decide_eq_true_eq, ne_eq, Classical.not_not] at *); first | (simp [kb, kb_0, kb_1, vr_n, vr_s, takF, may_1, may_2, havF_n, havF_s, shF_none, shF_some, *]; done) | (simp [kb, kb_0, kb_1, vr_n, vr_s, takF, may_1, may_2, havF_n, havF_s, shF_none, shF_some, *] <;> grind), rfl⟩) (by omega) (by omega)
          · skip
            refine J_iconst (v := 1) (by decide) dX0_canTake_38 ?_
            refine J_goto 43 (by decide) dX0_canTake_39 ?_
            refine J_istore (lv' := [(0, .ref (ka S 3 0)), (1, .ref a), (2, .int v), (3, .int 0), (4, .int 1), (5, .ref a345), (6, .int 1)]) (by decide) rfl dX0_canTake_43 ?_
            refine J_iload 6 rfl dX0_canTake_45 ?_
            refine J_if_ne 61 (by decide) dX0_canTake_47 (fun c416 => ?_) (fun c416 => ?_)
            rotate_left
            · exact absurd c416 (by decide)
            refine J_iload 6 rfl dX0_canTake_61 ?_
            refine J_if_eq 77 (by decide) dX0_canTake_63 (fun c417 => ?_) (fun c417 => ?_)
            · exact absurd c417 (by decide)
            refine J_aload_n 1 rfl dX0_canTake_66 ?_
            refine J_iload 4 rfl dX0_canTake_67 ?_
            refine cv_0_29 (cells' := 0) (slots' := 0) dX0_canTake_69 (c_X5_mayHave (by assumption)) (n20 (by assumption)) ⟨by decide, by decide⟩ rfl rfl (by decide) (by decide) (Nat.le_of_ble_eq_true rfl) (fun _ _ r418 => ?_) (fun _ _ h => h.elim)
            obtain ⟨rfl, rfl⟩ := r418
            refine J_eq (st' := [.int (kb (mayF I a 1))]) rfl rfl rfl ?_
            refine J_topv (v' := .int 1) (by first | rfl | (rw [may_1]; rfl)) ?_
            refine J_if_eq 77 (by decide) dX0_canTake_72 (fun c419 => ?_) (fun c419 => ?_)
            · exact absurd c419 (by decide)
            refine J_iconst (v := 1) (by decide) dX0_canTake_75 ?_
            refine J_istore_n (lv' := [(0, .ref (ka S 3 0)), (1, .ref a), (2, .int v), (3, .int 1), (4, .int 1), (5, .ref a345), (6, .int 1)]) (by decide) rfl dX0_canTake_76 ?_
            refine J_iinc (v := 2) (lv' := [(0, .ref (ka S 3 0)), (1, .ref a), (2, .int v), (3, .int 1), (4, .int 2), (5, .ref a345), (6, .int 1)]) 4 rfl (by decide) (by decide) rfl dX0_canTake_77 ?_
            refine J_goto 5 (by decide) dX0_canTake_80 ?_
            refine J_iload 4 rfl dX0_canTake_5 ?_
            refine J_aload_n 0 rfl dX0_canTake_7 ?_
            refine gf_0_11 (n3 _) dX0_canTake_8 ?_
            refine J_alen (v := 3) 5 (n14 _) rfl rfl rfl dX0_canTake_11 ?_
            refine J_icmp_ge 83 (by decide) dX0_canTake_12 (fun c421 => ?_) (fun c421 => ?_)
            · exact absurd c421 (by decide)
            refine J_aload_n 0 rfl dX0_canTake_15 ?_
            refine gf_0_11 (n3 _) dX0_canTake_16 ?_
            refine J_iload 4 rfl dX0_canTake_19 ?_
            refine J_aald 2 5 (n14 _) rfl rfl (vp_in_iff.mpr (by decide)) (by decide) dX0_canTake_21 ?_
            rcases opt_split (R 14 0 2) with o422 | ⟨a423, o422⟩
            · skip
              refine J_topv (v' := .null) (by first | rfl | (rw [o422]; rfl)) ?_
              refine J_astoreN (lv' := [(0, .ref (ka S 3 0)), (1, .ref a), (2, .int v), (3, .int 1), (4, .int 2), (5, .null), (6, .int 1)]) (by decide) rfl dX0_canTake_22 ?_
              refine J_aloadN 5 rfl dX0_canTake_24 ?_
              refine J_ifnullN 38 (by decide) dX0_canTake_26 ?_
              refine J_iconst (v := 1) (by decide) dX0_canTake_38 ?_
              refine J_goto 43 (by decide) dX0_canTake_39 ?_
              refine J_istore (lv' := [(0, .ref (ka S 3 0)), (1, .ref a), (2, .int v), (3, .int 1), (4, .int 2), (5, .null), (6, .int 1)]) (by decide) rfl dX0_canTake_43 ?_
              refine J_iload 6 rfl dX0_canTake_45 ?_
              refine J_if_ne 61 (by decide) dX0_canTake_47 (fun c424 => ?_) (fun c424 => ?_)
              rotate_left
              · exact absurd c424 (by decide)
              refine J_iload 6 rfl dX0_canTake_61 ?_
              refine J_if_eq 77 (by decide) dX0_canTake_63 (fun c425 => ?_) (fun c425 => ?_)
              · exact absurd c425 (by decide)
              refine J_aload_n 1 rfl dX0_canTake_66 ?_
              refine J_iload 4 rfl dX0_canTake_67 ?_
              refine cv_0_29 (cells' := 0) (slots' := 0) dX0_canTake_69 (c_X5_mayHave (by assumption)) (n20 (by assumption)) ⟨by decide, by decide⟩ rfl rfl (by decide) (by decide) (Nat.le_of_ble_eq_true rfl) (fun _ _ r426 => ?_) (fun _ _ h => h.elim)
              obtain ⟨rfl, rfl⟩ := r426
              refine J_eq (st' := [.int (kb (mayF I a 2))]) rfl rfl rfl ?_
              refine J_topv (v' := .int 1) (by first | rfl | (rw [may_2]; rfl)) ?_
              refine J_if_eq 77 (by decide) dX0_canTake_72 (fun c427 => ?_) (fun c427 => ?_)
              · exact absurd c427 (by decide)
              refine J_iconst (v := 1) (by decide) dX0_canTake_75 ?_
              refine J_istore_n (lv' := [(0, .ref (ka S 3 0)), (1, .ref a), (2, .int v), (3, .int 1), (4, .int 2), (5, .null), (6, .int 1)]) (by decide) rfl dX0_canTake_76 ?_
              refine J_iinc (v := 3) (lv' := [(0, .ref (ka S 3 0)), (1, .ref a), (2, .int v), (3, .int 1), (4, .int 3), (5, .null), (6, .int 1)]) 4 rfl (by decide) (by decide) rfl dX0_canTake_77 ?_
              refine J_goto 5 (by decide) dX0_canTake_80 ?_
              refine J_iload 4 rfl dX0_canTake_5 ?_
              refine J_aload_n 0 rfl dX0_canTake_7 ?_
              refine gf_0_11 (n3 _) dX0_canTake_8 ?_
              refine J_alen (v := 3) 5 (n14 _) rfl rfl rfl dX0_canTake_11 ?_
              refine J_icmp_ge 83 (by decide) dX0_canTake_12 (fun c429 => ?_) (fun c429 => ?_)
              rotate_left
              · exact absurd (by decide) c429
              refine J_iload_n 2 rfl dX0_canTake_83 ?_
              refine J_if_eq 95 (by decide) dX0_canTake_84 (fun c430 => ?_) (fun c430 => ?_)
              · skip
                refine J_iconst (v := 0) (by decide) dX0_canTake_95 ?_
                exact J_ireturn rfl (by first | rfl | assumption | simp [kb_nar]) dX0_canTake_96 (⟨by (try simp only [kb_0, kb_1, kb_n0, kb_n1, decide_eq_false_iff_not, decide_eq_true_eq, ne_eq, Classical.not_not] at *); first | (simp [kb, kb_0, kb_1, vr_n, vr_s, takF, may_1, may_2, havF_n, havF_s, shF_none, shF_some, *]; done) | (simp [kb, kb_0, kb_1, vr_n, vr_s, takF, may_1, may_2, havF_n, havF_s, shF_none, shF_some, *] <;> grind), rfl⟩) (by omega) (by omega)
              · skip
                refine J_iload_n 3 rfl dX0_canTake_87 ?_
                refine J_if_eq 95 (by decide) dX0_canTake_88 (fun c431 => ?_) (fun c431 => ?_)
                · exact absurd c431 (by decide)
                refine J_iconst (v := 1) (by decide) dX0_canTake_91 ?_
                refine J_goto 96 (by decide) dX0_canTake_92 ?_
                exact J_ireturn rfl (by first | rfl | assumption | simp [kb_nar]) dX0_canTake_96 (⟨by (try simp only [kb_0, kb_1, kb_n0, kb_n1, decide_eq_false_iff_not, decide_eq_true_eq, ne_eq, Classical.not_not] at *); first | (simp [kb, kb_0, kb_1, vr_n, vr_s, takF, may_1, may_2, havF_n, havF_s, shF_none, shF_some, *]; done) | (simp [kb, kb_0, kb_1, vr_n, vr_s, takF, may_1, may_2, havF_n, havF_s, shF_none, shF_some, *] <;> grind), rfl⟩) (by omega) (by omega)
            · skip
              have ma423 : a423 ∈ LP := hsp _ _ (by decide) o422
              refine J_topv (v' := .ref a423) (by first | rfl | (rw [o422]; rfl)) ?_
              refine J_astore (lv' := [(0, .ref (ka S 3 0)), (1, .ref a), (2, .int v), (3, .int 1), (4, .int 2), (5, .ref a423), (6, .int 1)]) (by decide) rfl dX0_canTake_22 ?_
              refine J_aload 5 rfl dX0_canTake_24 ?_
              refine J_ifnull dX0_canTake_26 ?_
              refine J_aload_n 1 rfl dX0_canTake_29 ?_
              refine J_aload 5 rfl dX0_canTake_30 ?_
              refine cv_0_25 (cells' := 0) (slots' := 0) dX0_canTake_32 (c_X5_canBreakInOn (by assumption) (by assumption)) (n20 (by assumption)) ⟨by decide, by decide⟩ rfl rfl (by decide) (by decide) (Nat.le_of_ble_eq_true rfl) (fun _ _ r432 => ?_) (fun _ _ h => h.elim)
              obtain ⟨rfl, rfl⟩ := r432
              refine J_eq (st' := [.int (kb (brkF I a a423))]) rfl rfl rfl ?_
              refine J_if_eq 42 (by decide) dX0_canTake_35 (fun c433 => ?_) (fun c433 => ?_)
              · skip
                refine J_iconst (v := 0) (by decide) dX0_canTake_42 ?_
                refine J_istore (lv' := [(0, .ref (ka S 3 0)), (1, .ref a), (2, .int v), (3, .int 1), (4, .int 2), (5, .ref a423), (6, .int 0)]) (by decide) rfl dX0_canTake_43 ?_
                refine J_iload 6 rfl dX0_canTake_45 ?_
                refine J_if_ne 61 (by decide) dX0_canTake_47 (fun c434 => ?_) (fun c434 => ?_)
                · exact absurd (by decide) c434
                refine J_aload 5 rfl dX0_canTake_50 ?_
                refine J_iload_n 2 rfl dX0_canTake_52 ?_
                refine cv_0_21 (cells' := 0) (slots' := 0) dX0_canTake_53 (c_X5_sharesStationWith (by assumption)) (n20 (by assumption)) ⟨by decide, by decide⟩ rfl rfl (by decide) (by decide) (Nat.le_of_ble_eq_true rfl) (fun _ _ r435 => ?_) (fun _ _ h => h.elim)
                obtain ⟨rfl, rfl⟩ := r435
                refine J_eq (st' := [.int (kb (shrF I a423 v))]) rfl rfl rfl ?_
                refine J_if_eq 61 (by decide) dX0_canTake_56 (fun c436 => ?_) (fun c436 => ?_)
                · skip
                  refine J_iload 6 rfl dX0_canTake_61 ?_
                  refine J_if_eq 77 (by decide) dX0_canTake_63 (fun c437 => ?_) (fun c437 => ?_)
                  rotate_left
                  · exact absurd (by decide) c437
                  refine J_iinc (v := 3) (lv' := [(0, .ref (ka S 3 0)), (1, .ref a), (2, .int v), (3, .int 1), (4, .int 3), (5, .ref a423), (6, .int 0)]) 4 rfl (by decide) (by decide) rfl dX0_canTake_77 ?_
                  refine J_goto 5 (by decide) dX0_canTake_80 ?_
                  refine J_iload 4 rfl dX0_canTake_5 ?_
                  refine J_aload_n 0 rfl dX0_canTake_7 ?_
                  refine gf_0_11 (n3 _) dX0_canTake_8 ?_
                  refine J_alen (v := 3) 5 (n14 _) rfl rfl rfl dX0_canTake_11 ?_
                  refine J_icmp_ge 83 (by decide) dX0_canTake_12 (fun c439 => ?_) (fun c439 => ?_)
                  rotate_left
                  · exact absurd (by decide) c439
                  refine J_iload_n 2 rfl dX0_canTake_83 ?_
                  refine J_if_eq 95 (by decide) dX0_canTake_84 (fun c440 => ?_) (fun c440 => ?_)
                  · skip
                    refine J_iconst (v := 0) (by decide) dX0_canTake_95 ?_
                    exact J_ireturn rfl (by first | rfl | assumption | simp [kb_nar]) dX0_canTake_96 (⟨by (try simp only [kb_0, kb_1, kb_n0, kb_n1, decide_eq_false_iff_not, decide_eq_true_eq, ne_eq, Classical.not_not] at *); first | (simp [kb, kb_0, kb_1, vr_n, vr_s, takF, may_1, may_2, havF_n, havF_s, shF_none, shF_some, *]; done) | (simp [kb, kb_0, kb_1, vr_n, vr_s, takF, may_1, may_2, havF_n, havF_s, shF_none, shF_some, *] <;> grind), rfl⟩) (by omega) (by omega)
                  · skip
                    refine J_iload_n 3 rfl dX0_canTake_87 ?_
                    refine J_if_eq 95 (by decide) dX0_canTake_88 (fun c441 => ?_) (fun c441 => ?_)
                    · exact absurd c441 (by decide)
                    refine J_iconst (v := 1) (by decide) dX0_canTake_91 ?_
                    refine J_goto 96 (by decide) dX0_canTake_92 ?_
                    exact J_ireturn rfl (by first | rfl | assumption | simp [kb_nar]) dX0_canTake_96 (⟨by (try simp only [kb_0, kb_1, kb_n0, kb_n1, decide_eq_false_iff_not, decide_eq_true_eq, ne_eq, Classical.not_not] at *); first | (simp [kb, kb_0, kb_1, vr_n, vr_s, takF, may_1, may_2, havF_n, havF_s, shF_none, shF_some, *]; done) | (simp [kb, kb_0, kb_1, vr_n, vr_s, takF, may_1, may_2, havF_n, havF_s, shF_none, shF_some, *] <;> grind), rfl⟩) (by omega) (by omega)
                · skip
                  refine J_iconst (v := 0) (by decide) dX0_canTake_59 ?_
                  exact J_ireturn rfl (by first | rfl | assumption | simp [kb_nar]) dX0_canTake_60 (⟨by (try simp only [kb_0, kb_1, kb_n0, kb_n1, decide_eq_false_iff_not, decide_eq_true_eq, ne_eq, Classical.not_not] at *); first | (simp [kb, kb_0, kb_1, vr_n, vr_s, takF, may_1, may_2, havF_n, havF_s, shF_none, shF_some, *]; done) | (simp [kb, kb_0, kb_1, vr_n, vr_s, takF, may_1, may_2, havF_n, havF_s, shF_none, shF_some, *] <;> grind), rfl⟩) (by omega) (by omega)
              · skip
                refine J_iconst (v := 1) (by decide) dX0_canTake_38 ?_
                refine J_goto 43 (by decide) dX0_canTake_39 ?_
                refine J_istore (lv' := [(0, .ref (ka S 3 0)), (1, .ref a), (2, .int v), (3, .int 1), (4, .int 2), (5, .ref a423), (6, .int 1)]) (by decide) rfl dX0_canTake_43 ?_
                refine J_iload 6 rfl dX0_canTake_45 ?_
                refine J_if_ne 61 (by decide) dX0_canTake_47 (fun c442 => ?_) (fun c442 => ?_)
                rotate_left
                · exact absurd c442 (by decide)
                refine J_iload 6 rfl dX0_canTake_61 ?_
                refine J_if_eq 77 (by decide) dX0_canTake_63 (fun c443 => ?_) (fun c443 => ?_)
                · exact absurd c443 (by decide)
                refine J_aload_n 1 rfl dX0_canTake_66 ?_
                refine J_iload 4 rfl dX0_canTake_67 ?_
                refine cv_0_29 (cells' := 0) (slots' := 0) dX0_canTake_69 (c_X5_mayHave (by assumption)) (n20 (by assumption)) ⟨by decide, by decide⟩ rfl rfl (by decide) (by decide) (Nat.le_of_ble_eq_true rfl) (fun _ _ r444 => ?_) (fun _ _ h => h.elim)
                obtain ⟨rfl, rfl⟩ := r444
                refine J_eq (st' := [.int (kb (mayF I a 2))]) rfl rfl rfl ?_
                refine J_topv (v' := .int 1) (by first | rfl | (rw [may_2]; rfl)) ?_
                refine J_if_eq 77 (by decide) dX0_canTake_72 (fun c445 => ?_) (fun c445 => ?_)
                · exact absurd c445 (by decide)
                refine J_iconst (v := 1) (by decide) dX0_canTake_75 ?_
                refine J_istore_n (lv' := [(0, .ref (ka S 3 0)), (1, .ref a), (2, .int v), (3, .int 1), (4, .int 2), (5, .ref a423), (6, .int 1)]) (by decide) rfl dX0_canTake_76 ?_
                refine J_iinc (v := 3) (lv' := [(0, .ref (ka S 3 0)), (1, .ref a), (2, .int v), (3, .int 1), (4, .int 3), (5, .ref a423), (6, .int 1)]) 4 rfl (by decide) (by decide) rfl dX0_canTake_77 ?_
                refine J_goto 5 (by decide) dX0_canTake_80 ?_
                refine J_iload 4 rfl dX0_canTake_5 ?_
                refine J_aload_n 0 rfl dX0_canTake_7 ?_
                refine gf_0_11 (n3 _) dX0_canTake_8 ?_
                refine J_alen (v := 3) 5 (n14 _) rfl rfl rfl dX0_canTake_11 ?_
                refine J_icmp_ge 83 (by decide) dX0_canTake_12 (fun c447 => ?_) (fun c447 => ?_)
                rotate_left
                · exact absurd (by decide) c447
                refine J_iload_n 2 rfl dX0_canTake_83 ?_
                refine J_if_eq 95 (by decide) dX0_canTake_84 (fun c448 => ?_) (fun c448 => ?_)
                · skip
                  refine J_iconst (v := 0) (by decide) dX0_canTake_95 ?_
                  exact J_ireturn rfl (by first | rfl | assumption | simp [kb_nar]) dX0_canTake_96 (⟨by (try simp only [kb_0, kb_1, kb_n0, kb_n1, decide_eq_false_iff_not, decide_eq_true_eq, ne_eq, Classical.not_not] at *); first | (simp [kb, kb_0, kb_1, vr_n, vr_s, takF, may_1, may_2, havF_n, havF_s, shF_none, shF_some, *]; done) | (simp [kb, kb_0, kb_1, vr_n, vr_s, takF, may_1, may_2, havF_n, havF_s, shF_none, shF_some, *] <;> grind), rfl⟩) (by omega) (by omega)
                · skip
                  refine J_iload_n 3 rfl dX0_canTake_87 ?_
                  refine J_if_eq 95 (by decide) dX0_canTake_88 (fun c449 => ?_) (fun c449 => ?_)
                  · exact absurd c449 (by decide)
                  refine J_iconst (v := 1) (by decide) dX0_canTake_91 ?_
                  refine J_goto 96 (by decide) dX0_canTake_92 ?_
                  exact J_ireturn rfl (by first | rfl | assumption | simp [kb_nar]) dX0_canTake_96 (⟨by (try simp only [kb_0, kb_1, kb_n0, kb_n1, decide_eq_false_iff_not, decide_eq_true_eq, ne_eq, Classical.not_not] at *); first | (simp [kb, kb_0, kb_1, vr_n, vr_s, takF, may_1, may_2, havF_n, havF_s, shF_none, shF_some, *]; done) | (simp [kb, kb_0, kb_1, vr_n, vr_s, takF, may_1, may_2, havF_n, havF_s, shF_none, shF_some, *] <;> grind), rfl⟩) (by omega) (by omega)
      · skip
        refine J_iconst (v := 1) (by decide) dX0_canTake_75 ?_
        refine J_istore_n (lv' := [(0, .ref (ka S 3 0)), (1, .ref a), (2, .int v), (3, .int 1), (4, .int 0), (5, .ref a3), (6, .int 1)]) (by decide) rfl dX0_canTake_76 ?_
        refine J_iinc (v := 1) (lv' := [(0, .ref (ka S 3 0)), (1, .ref a), (2, .int v), (3, .int 1), (4, .int 1), (5, .ref a3), (6, .int 1)]) 4 rfl (by decide) (by decide) rfl dX0_canTake_77 ?_
        refine J_goto 5 (by decide) dX0_canTake_80 ?_
        refine J_iload 4 rfl dX0_canTake_5 ?_
        refine J_aload_n 0 rfl dX0_canTake_7 ?_
        refine gf_0_11 (n3 _) dX0_canTake_8 ?_
        refine J_alen (v := 3) 5 (n14 _) rfl rfl rfl dX0_canTake_11 ?_
        refine J_icmp_ge 83 (by decide) dX0_canTake_12 (fun c451 => ?_) (fun c451 => ?_)
        · exact absurd c451 (by decide)
        refine J_aload_n 0 rfl dX0_canTake_15 ?_
        refine gf_0_11 (n3 _) dX0_canTake_16 ?_
        refine J_iload 4 rfl dX0_canTake_19 ?_
        refine J_aald 1 5 (n14 _) rfl rfl (vp_in_iff.mpr (by decide)) (by decide) dX0_canTake_21 ?_
        rcases opt_split (R 14 0 1) with o452 | ⟨a453, o452⟩
        · skip
          refine J_topv (v' := .null) (by first | rfl | (rw [o452]; rfl)) ?_
          refine J_astoreN (lv' := [(0, .ref (ka S 3 0)), (1, .ref a), (2, .int v), (3, .int 1), (4, .int 1), (5, .null), (6, .int 1)]) (by decide) rfl dX0_canTake_22 ?_
          refine J_aloadN 5 rfl dX0_canTake_24 ?_
          refine J_ifnullN 38 (by decide) dX0_canTake_26 ?_
          refine J_iconst (v := 1) (by decide) dX0_canTake_38 ?_
          refine J_goto 43 (by decide) dX0_canTake_39 ?_
          refine J_istore (lv' := [(0, .ref (ka S 3 0)), (1, .ref a), (2, .int v), (3, .int 1), (4, .int 1), (5, .null), (6, .int 1)]) (by decide) rfl dX0_canTake_43 ?_
          refine J_iload 6 rfl dX0_canTake_45 ?_
          refine J_if_ne 61 (by decide) dX0_canTake_47 (fun c454 => ?_) (fun c454 => ?_)
          rotate_left
          · exact absurd c454 (by decide)
          refine J_iload 6 rfl dX0_canTake_61 ?_
          refine J_if_eq 77 (by decide) dX0_canTake_63 (fun c455 => ?_) (fun c455 => ?_)
          · exact absurd c455 (by decide)
          refine J_aload_n 1 rfl dX0_canTake_66 ?_
          refine J_iload 4 rfl dX0_canTake_67 ?_
          refine cv_0_29 (cells' := 0) (slots' := 0) dX0_canTake_69 (c_X5_mayHave (by assumption)) (n20 (by assumption)) ⟨by decide, by decide⟩ rfl rfl (by decide) (by decide) (Nat.le_of_ble_eq_true rfl) (fun _ _ r456 => ?_) (fun _ _ h => h.elim)
          obtain ⟨rfl, rfl⟩ := r456
          refine J_eq (st' := [.int (kb (mayF I a 1))]) rfl rfl rfl ?_
          refine J_topv (v' := .int 1) (by first | rfl | (rw [may_1]; rfl)) ?_
          refine J_if_eq 77 (by decide) dX0_canTake_72 (fun c457 => ?_) (fun c457 => ?_)
          · exact absurd c457 (by decide)
          refine J_iconst (v := 1) (by decide) dX0_canTake_75 ?_
          refine J_istore_n (lv' := [(0, .ref (ka S 3 0)), (1, .ref a), (2, .int v), (3, .int 1), (4, .int 1), (5, .null), (6, .int 1)]) (by decide) rfl dX0_canTake_76 ?_
          refine J_iinc (v := 2) (lv' := [(0, .ref (ka S 3 0)), (1, .ref a), (2, .int v), (3, .int 1), (4, .int 2), (5, .null), (6, .int 1)]) 4 rfl (by decide) (by decide) rfl dX0_canTake_77 ?_
          refine J_goto 5 (by decide) dX0_canTake_80 ?_
          refine J_iload 4 rfl dX0_canTake_5 ?_
          refine J_aload_n 0 rfl dX0_canTake_7 ?_
          refine gf_0_11 (n3 _) dX0_canTake_8 ?_
          refine J_alen (v := 3) 5 (n14 _) rfl rfl rfl dX0_canTake_11 ?_
          refine J_icmp_ge 83 (by decide) dX0_canTake_12 (fun c459 => ?_) (fun c459 => ?_)
          · exact absurd c459 (by decide)
          refine J_aload_n 0 rfl dX0_canTake_15 ?_
          refine gf_0_11 (n3 _) dX0_canTake_16 ?_
          refine J_iload 4 rfl dX0_canTake_19 ?_
          refine J_aald 2 5 (n14 _) rfl rfl (vp_in_iff.mpr (by decide)) (by decide) dX0_canTake_21 ?_
          rcases opt_split (R 14 0 2) with o460 | ⟨a461, o460⟩
          · skip
            refine J_topv (v' := .null) (by first | rfl | (rw [o460]; rfl)) ?_
            refine J_astoreN (lv' := [(0, .ref (ka S 3 0)), (1, .ref a), (2, .int v), (3, .int 1), (4, .int 2), (5, .null), (6, .int 1)]) (by decide) rfl dX0_canTake_22 ?_
            refine J_aloadN 5 rfl dX0_canTake_24 ?_
            refine J_ifnullN 38 (by decide) dX0_canTake_26 ?_
            refine J_iconst (v := 1) (by decide) dX0_canTake_38 ?_
            refine J_goto 43 (by decide) dX0_canTake_39 ?_
            refine J_istore (lv' := [(0, .ref (ka S 3 0)), (1, .ref a), (2, .int v), (3, .int 1), (4, .int 2), (5, .null), (6, .int 1)]) (by decide) rfl dX0_canTake_43 ?_
            refine J_iload 6 rfl dX0_canTake_45 ?_
            refine J_if_ne 61 (by decide) dX0_canTake_47 (fun c462 => ?_) (fun c462 => ?_)
            rotate_left
            · exact absurd c462 (by decide)
            refine J_iload 6 rfl dX0_canTake_61 ?_
            refine J_if_eq 77 (by decide) dX0_canTake_63 (fun c463 => ?_) (fun c463 => ?_)
            · exact absurd c463 (by decide)
            refine J_aload_n 1 rfl dX0_canTake_66 ?_
            refine J_iload 4 rfl dX0_canTake_67 ?_
            refine cv_0_29 (cells' := 0) (slots' := 0) dX0_canTake_69 (c_X5_mayHave (by assumption)) (n20 (by assumption)) ⟨by decide, by decide⟩ rfl rfl (by decide) (by decide) (Nat.le_of_ble_eq_true rfl) (fun _ _ r464 => ?_) (fun _ _ h => h.elim)
            obtain ⟨rfl, rfl⟩ := r464
            refine J_eq (st' := [.int (kb (mayF I a 2))]) rfl rfl rfl ?_
            refine J_topv (v' := .int 1) (by first | rfl | (rw [may_2]; rfl)) ?_
            refine J_if_eq 77 (by decide) dX0_canTake_72 (fun c465 => ?_) (fun c465 => ?_)
            · exact absurd c465 (by decide)
            refine J_iconst (v := 1) (by decide) dX0_canTake_75 ?_
            refine J_istore_n (lv' := [(0, .ref (ka S 3 0)), (1, .ref a), (2, .int v), (3, .int 1), (4, .int 2), (5, .null), (6, .int 1)]) (by decide) rfl dX0_canTake_76 ?_
            refine J_iinc (v := 3) (lv' := [(0, .ref (ka S 3 0)), (1, .ref a), (2, .int v), (3, .int 1), (4, .int 3), (5, .null), (6, .int 1)]) 4 rfl (by decide) (by decide) rfl dX0_canTake_77 ?_
            refine J_goto 5 (by decide) dX0_canTake_80 ?_
            refine J_iload 4 rfl dX0_canTake_5 ?_
            refine J_aload_n 0 rfl dX0_canTake_7 ?_
            refine gf_0_11 (n3 _) dX0_canTake_8 ?_
            refine J_alen (v := 3) 5 (n14 _) rfl rfl rfl dX0_canTake_11 ?_
            refine J_icmp_ge 83 (by decide) dX0_canTake_12 (fun c467 => ?_) (fun c467 => ?_)
            rotate_left
            · exact absurd (by decide) c467
            refine J_iload_n 2 rfl dX0_canTake_83 ?_
            refine J_if_eq 95 (by decide) dX0_canTake_84 (fun c468 => ?_) (fun c468 => ?_)
            · skip
              refine J_iconst (v := 0) (by decide) dX0_canTake_95 ?_
              exact J_ireturn rfl (by first | rfl | assumption | simp [kb_nar]) dX0_canTake_96 (⟨by (try simp only [kb_0, kb_1, kb_n0, kb_n1, decide_eq_false_iff_not, decide_eq_true_eq, ne_eq, Classical.not_not] at *); first | (simp [kb, kb_0, kb_1, vr_n, vr_s, takF, may_1, may_2, havF_n, havF_s, shF_none, shF_some, *]; done) | (simp [kb, kb_0, kb_1, vr_n, vr_s, takF, may_1, may_2, havF_n, havF_s, shF_none, shF_some, *] <;> grind), rfl⟩) (by omega) (by omega)
            · skip
              refine J_iload_n 3 rfl dX0_canTake_87 ?_
              refine J_if_eq 95 (by decide) dX0_canTake_88 (fun c469 => ?_) (fun c469 => ?_)
              · exact absurd c469 (by decide)
              refine J_iconst (v := 1) (by decide) dX0_canTake_91 ?_
              refine J_goto 96 (by decide) dX0_canTake_92 ?_
              exact J_ireturn rfl (by first | rfl | assumption | simp [kb_nar]) dX0_canTake_96 (⟨by (try simp only [kb_0, kb_1, kb_n0, kb_n1, decide_eq_false_iff_not, decide_eq_true_eq, ne_eq, Classical.not_not] at *); first | (simp [kb, kb_0, kb_1, vr_n, vr_s, takF, may_1, may_2, havF_n, havF_s, shF_none, shF_some, *]; done) | (simp [kb, kb_0, kb_1, vr_n, vr_s, takF, may_1, may_2, havF_n, havF_s, shF_none, shF_some, *] <;> grind), rfl⟩) (by omega) (by omega)
          · skip
            have ma461 : a461 ∈ LP := hsp _ _ (by decide) o460
            refine J_topv (v' := .ref a461) (by first | rfl | (rw [o460]; rfl)) ?_
            refine J_astore (lv' := [(0, .ref (ka S 3 0)), (1, .ref a), (2, .int v), (3, .int 1), (4, .int 2), (5, .ref a461), (6, .int 1)]) (by decide) rfl dX0_canTake_22 ?_
            refine J_aload 5 rfl dX0_canTake_24 ?_
            refine J_ifnull dX0_canTake_26 ?_
            refine J_aload_n 1 rfl dX0_canTake_29 ?_
            refine J_aload 5 rfl dX0_canTake_30 ?_
            refine cv_0_25 (cells' := 0) (slots' := 0) dX0_canTake_32 (c_X5_canBreakInOn (by assumption) (by assumption)) (n20 (by assumption)) ⟨by decide, by decide⟩ rfl rfl (by decide) (by decide) (Nat.le_of_ble_eq_true rfl) (fun _ _ r470 => ?_) (fun _ _ h => h.elim)
            obtain ⟨rfl, rfl⟩ := r470
            refine J_eq (st' := [.int (kb (brkF I a a461))]) rfl rfl rfl ?_
            refine J_if_eq 42 (by decide) dX0_canTake_35 (fun c471 => ?_) (fun c471 => ?_)
            · skip
              refine J_iconst (v := 0) (by decide) dX0_canTake_42 ?_
              refine J_istore (lv' := [(0, .ref (ka S 3 0)), (1, .ref a), (2, .int v), (3, .int 1), (4, .int 2), (5, .ref a461), (6, .int 0)]) (by decide) rfl dX0_canTake_43 ?_
              refine J_iload 6 rfl dX0_canTake_45 ?_
              refine J_if_ne 61 (by decide) dX0_canTake_47 (fun c472 => ?_) (fun c472 => ?_)
              · exact absurd (by decide) c472
              refine J_aload 5 rfl dX0_canTake_50 ?_
              refine J_iload_n 2 rfl dX0_canTake_52 ?_
              refine cv_0_21 (cells' := 0) (slots' := 0) dX0_canTake_53 (c_X5_sharesStationWith (by assumption)) (n20 (by assumption)) ⟨by decide, by decide⟩ rfl rfl (by decide) (by decide) (Nat.le_of_ble_eq_true rfl) (fun _ _ r473 => ?_) (fun _ _ h => h.elim)
              obtain ⟨rfl, rfl⟩ := r473
              refine J_eq (st' := [.int (kb (shrF I a461 v))]) rfl rfl rfl ?_
              refine J_if_eq 61 (by decide) dX0_canTake_56 (fun c474 => ?_) (fun c474 => ?_)
              · skip
                refine J_iload 6 rfl dX0_canTake_61 ?_
                refine J_if_eq 77 (by decide) dX0_canTake_63 (fun c475 => ?_) (fun c475 => ?_)
                rotate_left
                · exact absurd (by decide) c475
                refine J_iinc (v := 3) (lv' := [(0, .ref (ka S 3 0)), (1, .ref a), (2, .int v), (3, .int 1), (4, .int 3), (5, .ref a461), (6, .int 0)]) 4 rfl (by decide) (by decide) rfl dX0_canTake_77 ?_
                refine J_goto 5 (by decide) dX0_canTake_80 ?_
                refine J_iload 4 rfl dX0_canTake_5 ?_
                refine J_aload_n 0 rfl dX0_canTake_7 ?_
                refine gf_0_11 (n3 _) dX0_canTake_8 ?_
                refine J_alen (v := 3) 5 (n14 _) rfl rfl rfl dX0_canTake_11 ?_
                refine J_icmp_ge 83 (by decide) dX0_canTake_12 (fun c477 => ?_) (fun c477 => ?_)
                rotate_left
                · exact absurd (by decide) c477
                refine J_iload_n 2 rfl dX0_canTake_83 ?_
                refine J_if_eq 95 (by decide) dX0_canTake_84 (fun c478 => ?_) (fun c478 => ?_)
                · skip
                  refine J_iconst (v := 0) (by decide) dX0_canTake_95 ?_
                  exact J_ireturn rfl (by first | rfl | assumption | simp [kb_nar]) dX0_canTake_96 (⟨by (try simp only [kb_0, kb_1, kb_n0, kb_n1, decide_eq_false_iff_not, decide_eq_true_eq, ne_eq, Classical.not_not] at *); first | (simp [kb, kb_0, kb_1, vr_n, vr_s, takF, may_1, may_2, havF_n, havF_s, shF_none, shF_some, *]; done) | (simp [kb, kb_0, kb_1, vr_n, vr_s, takF, may_1, may_2, havF_n, havF_s, shF_none, shF_some, *] <;> grind), rfl⟩) (by omega) (by omega)
                · skip
                  refine J_iload_n 3 rfl dX0_canTake_87 ?_
                  refine J_if_eq 95 (by decide) dX0_canTake_88 (fun c479 => ?_) (fun c479 => ?_)
                  · exact absurd c479 (by decide)
                  refine J_iconst (v := 1) (by decide) dX0_canTake_91 ?_
                  refine J_goto 96 (by decide) dX0_canTake_92 ?_
                  exact J_ireturn rfl (by first | rfl | assumption | simp [kb_nar]) dX0_canTake_96 (⟨by (try simp only [kb_0, kb_1, kb_n0, kb_n1, decide_eq_false_iff_not, decide_eq_true_eq, ne_eq, Classical.not_not] at *); first | (simp [kb, kb_0, kb_1, vr_n, vr_s, takF, may_1, may_2, havF_n, havF_s, shF_none, shF_some, *]; done) | (simp [kb, kb_0, kb_1, vr_n, vr_s, takF, may_1, may_2, havF_n, havF_s, shF_none, shF_some, *] <;> grind), rfl⟩) (by omega) (by omega)
              · skip
                refine J_iconst (v := 0) (by decide) dX0_canTake_59 ?_
                exact J_ireturn rfl (by first | rfl | assumption | simp [kb_nar]) dX0_canTake_60 (⟨by (try simp only [kb_0, kb_1, kb_n0, kb_n1, decide_eq_false_iff_not, decide_eq_true_eq, ne_eq, Classical.not_not] at *); first | (simp [kb, kb_0, kb_1, vr_n, vr_s, takF, may_1, may_2, havF_n, havF_s, shF_none, shF_some, *]; done) | (simp [kb, kb_0, kb_1, vr_n, vr_s, takF, may_1, may_2, havF_n, havF_s, shF_none, shF_some, *] <;> grind), rfl⟩) (by omega) (by omega)
            · skip
              refine J_iconst (v := 1) (by decide) dX0_canTake_38 ?_
              refine J_goto 43 (by decide) dX0_canTake_39 ?_
              refine J_istore (lv' := [(0, .ref (ka S 3 0)), (1, .ref a), (2, .int v), (3, .int 1), (4, .int 2), (5, .ref a461), (6, .int 1)]) (by decide) rfl dX0_canTake_43 ?_
              refine J_iload 6 rfl dX0_canTake_45 ?_
              refine J_if_ne 61 (by decide) dX0_canTake_47 (fun c480 => ?_) (fun c480 => ?_)
              rotate_left
              · exact absurd c480 (by decide)
              refine J_iload 6 rfl dX0_canTake_61 ?_
              refine J_if_eq 77 (by decide) dX0_canTake_63 (fun c481 => ?_) (fun c481 => ?_)
              · exact absurd c481 (by decide)
              refine J_aload_n 1 rfl dX0_canTake_66 ?_
              refine J_iload 4 rfl dX0_canTake_67 ?_
              refine cv_0_29 (cells' := 0) (slots' := 0) dX0_canTake_69 (c_X5_mayHave (by assumption)) (n20 (by assumption)) ⟨by decide, by decide⟩ rfl rfl (by decide) (by decide) (Nat.le_of_ble_eq_true rfl) (fun _ _ r482 => ?_) (fun _ _ h => h.elim)
              obtain ⟨rfl, rfl⟩ := r482
              refine J_eq (st' := [.int (kb (mayF I a 2))]) rfl rfl rfl ?_
              refine J_topv (v' := .int 1) (by first | rfl | (rw [may_2]; rfl)) ?_
              refine J_if_eq 77 (by decide) dX0_canTake_72 (fun c483 => ?_) (fun c483 => ?_)
              · exact absurd c483 (by decide)
              refine J_iconst (v := 1) (by decide) dX0_canTake_75 ?_
              refine J_istore_n (lv' := [(0, .ref (ka S 3 0)), (1, .ref a), (2, .int v), (3, .int 1), (4, .int 2), (5, .ref a461), (6, .int 1)]) (by decide) rfl dX0_canTake_76 ?_
              refine J_iinc (v := 3) (lv' := [(0, .ref (ka S 3 0)), (1, .ref a), (2, .int v), (3, .int 1), (4, .int 3), (5, .ref a461), (6, .int 1)]) 4 rfl (by decide) (by decide) rfl dX0_canTake_77 ?_
              refine J_goto 5 (by decide) dX0_canTake_80 ?_
              refine J_iload 4 rfl dX0_canTake_5 ?_
              refine J_aload_n 0 rfl dX0_canTake_7 ?_
              refine gf_0_11 (n3 _) dX0_canTake_8 ?_
              refine J_alen (v := 3) 5 (n14 _) rfl rfl rfl dX0_canTake_11 ?_
              refine J_icmp_ge 83 (by decide) dX0_canTake_12 (fun c485 => ?_) (fun c485 => ?_)
              rotate_left
              · exact absurd (by decide) c485
              refine J_iload_n 2 rfl dX0_canTake_83 ?_
              refine J_if_eq 95 (by decide) dX0_canTake_84 (fun c486 => ?_) (fun c486 => ?_)
              · skip
                refine J_iconst (v := 0) (by decide) dX0_canTake_95 ?_
                exact J_ireturn rfl (by first | rfl | assumption | simp [kb_nar]) dX0_canTake_96 (⟨by (try simp only [kb_0, kb_1, kb_n0, kb_n1, decide_eq_false_iff_not, decide_eq_true_eq, ne_eq, Classical.not_not] at *); first | (simp [kb, kb_0, kb_1, vr_n, vr_s, takF, may_1, may_2, havF_n, havF_s, shF_none, shF_some, *]; done) | (simp [kb, kb_0, kb_1, vr_n, vr_s, takF, may_1, may_2, havF_n, havF_s, shF_none, shF_some, *] <;> grind), rfl⟩) (by omega) (by omega)
              · skip
                refine J_iload_n 3 rfl dX0_canTake_87 ?_
                refine J_if_eq 95 (by decide) dX0_canTake_88 (fun c487 => ?_) (fun c487 => ?_)
                · exact absurd c487 (by decide)
                refine J_iconst (v := 1) (by decide) dX0_canTake_91 ?_
                refine J_goto 96 (by decide) dX0_canTake_92 ?_
                exact J_ireturn rfl (by first | rfl | assumption | simp [kb_nar]) dX0_canTake_96 (⟨by (try simp only [kb_0, kb_1, kb_n0, kb_n1, decide_eq_false_iff_not, decide_eq_true_eq, ne_eq, Classical.not_not] at *); first | (simp [kb, kb_0, kb_1, vr_n, vr_s, takF, may_1, may_2, havF_n, havF_s, shF_none, shF_some, *]; done) | (simp [kb, kb_0, kb_1, vr_n, vr_s, takF, may_1, may_2, havF_n, havF_s, shF_none, shF_some, *] <;> grind), rfl⟩) (by omega) (by omega)
        · skip
          have ma453 : a453 ∈ LP := hsp _ _ (by decide) o452
          refine J_topv (v' := .ref a453) (by first | rfl | (rw [o452]; rfl)) ?_
          refine J_astore (lv' := [(0, .ref (ka S 3 0)), (1, .ref a), (2, .int v), (3, .int 1), (4, .int 1), (5, .ref a453), (6, .int 1)]) (by decide) rfl dX0_canTake_22 ?_
          refine J_aload 5 rfl dX0_canTake_24 ?_
          refine J_ifnull dX0_canTake_26 ?_
          refine J_aload_n 1 rfl dX0_canTake_29 ?_
          refine J_aload 5 rfl dX0_canTake_30 ?_
          refine cv_0_25 (cells' := 0) (slots' := 0) dX0_canTake_32 (c_X5_canBreakInOn (by assumption) (by assumption)) (n20 (by assumption)) ⟨by decide, by decide⟩ rfl rfl (by decide) (by decide) (Nat.le_of_ble_eq_true rfl) (fun _ _ r488 => ?_) (fun _ _ h => h.elim)
          obtain ⟨rfl, rfl⟩ := r488
          refine J_eq (st' := [.int (kb (brkF I a a453))]) rfl rfl rfl ?_
          refine J_if_eq 42 (by decide) dX0_canTake_35 (fun c489 => ?_) (fun c489 => ?_)
          · skip
            refine J_iconst (v := 0) (by decide) dX0_canTake_42 ?_
            refine J_istore (lv' := [(0, .ref (ka S 3 0)), (1, .ref a), (2, .int v), (3, .int 1), (4, .int 1), (5, .ref a453), (6, .int 0)]) (by decide) rfl dX0_canTake_43 ?_
            refine J_iload 6 rfl dX0_canTake_45 ?_
            refine J_if_ne 61 (by decide) dX0_canTake_47 (fun c490 => ?_) (fun c490 => ?_)
            · exact absurd (by decide) c490
            refine J_aload 5 rfl dX0_canTake_50 ?_
            refine J_iload_n 2 rfl dX0_canTake_52 ?_
            refine cv_0_21 (cells' := 0) (slots' := 0) dX0_canTake_53 (c_X5_sharesStationWith (by assumption)) (n20 (by assumption)) ⟨by decide, by decide⟩ rfl rfl (by decide) (by decide) (Nat.le_of_ble_eq_true rfl) (fun _ _ r491 => ?_) (fun _ _ h => h.elim)
            obtain ⟨rfl, rfl⟩ := r491
            refine J_eq (st' := [.int (kb (shrF I a453 v))]) rfl rfl rfl ?_
            refine J_if_eq 61 (by decide) dX0_canTake_56 (fun c492 => ?_) (fun c492 => ?_)
            · skip
              refine J_iload 6 rfl dX0_canTake_61 ?_
              refine J_if_eq 77 (by decide) dX0_canTake_63 (fun c493 => ?_) (fun c493 => ?_)
              rotate_left
              · exact absurd (by decide) c493
              refine J_iinc (v := 2) (lv' := [(0, .ref (ka S 3 0)), (1, .ref a), (2, .int v), (3, .int 1), (4, .int 2), (5, .ref a453), (6, .int 0)]) 4 rfl (by decide) (by decide) rfl dX0_canTake_77 ?_
              refine J_goto 5 (by decide) dX0_canTake_80 ?_
              refine J_iload 4 rfl dX0_canTake_5 ?_
              refine J_aload_n 0 rfl dX0_canTake_7 ?_
              refine gf_0_11 (n3 _) dX0_canTake_8 ?_
              refine J_alen (v := 3) 5 (n14 _) rfl rfl rfl dX0_canTake_11 ?_
              refine J_icmp_ge 83 (by decide) dX0_canTake_12 (fun c495 => ?_) (fun c495 => ?_)
              · exact absurd c495 (by decide)
              refine J_aload_n 0 rfl dX0_canTake_15 ?_
              refine gf_0_11 (n3 _) dX0_canTake_16 ?_
              refine J_iload 4 rfl dX0_canTake_19 ?_
              refine J_aald 2 5 (n14 _) rfl rfl (vp_in_iff.mpr (by decide)) (by decide) dX0_canTake_21 ?_
              rcases opt_split (R 14 0 2) with o496 | ⟨a497, o496⟩
              · skip
                refine J_topv (v' := .null) (by first | rfl | (rw [o496]; rfl)) ?_
                refine J_astoreN (lv' := [(0, .ref (ka S 3 0)), (1, .ref a), (2, .int v), (3, .int 1), (4, .int 2), (5, .null), (6, .int 0)]) (by decide) rfl dX0_canTake_22 ?_
                refine J_aloadN 5 rfl dX0_canTake_24 ?_
                refine J_ifnullN 38 (by decide) dX0_canTake_26 ?_
                refine J_iconst (v := 1) (by decide) dX0_canTake_38 ?_
                refine J_goto 43 (by decide) dX0_canTake_39 ?_
                refine J_istore (lv' := [(0, .ref (ka S 3 0)), (1, .ref a), (2, .int v), (3, .int 1), (4, .int 2), (5, .null), (6, .int 1)]) (by decide) rfl dX0_canTake_43 ?_
                refine J_iload 6 rfl dX0_canTake_45 ?_
                refine J_if_ne 61 (by decide) dX0_canTake_47 (fun c498 => ?_) (fun c498 => ?_)
                rotate_left
                · exact absurd c498 (by decide)
                refine J_iload 6 rfl dX0_canTake_61 ?_
                refine J_if_eq 77 (by decide) dX0_canTake_63 (fun c499 => ?_) (fun c499 => ?_)
                · exact absurd c499 (by decide)
                refine J_aload_n 1 rfl dX0_canTake_66 ?_
                refine J_iload 4 rfl dX0_canTake_67 ?_
                refine cv_0_29 (cells' := 0) (slots' := 0) dX0_canTake_69 (c_X5_mayHave (by assumption)) (n20 (by assumption)) ⟨by decide, by decide⟩ rfl rfl (by decide) (by decide) (Nat.le_of_ble_eq_true rfl) (fun _ _ r500 => ?_) (fun _ _ h => h.elim)
                obtain ⟨rfl, rfl⟩ := r500
                refine J_eq (st' := [.int (kb (mayF I a 2))]) rfl rfl rfl ?_
                refine J_topv (v' := .int 1) (by first | rfl | (rw [may_2]; rfl)) ?_
                refine J_if_eq 77 (by decide) dX0_canTake_72 (fun c501 => ?_) (fun c501 => ?_)
                · exact absurd c501 (by decide)
                refine J_iconst (v := 1) (by decide) dX0_canTake_75 ?_
                refine J_istore_n (lv' := [(0, .ref (ka S 3 0)), (1, .ref a), (2, .int v), (3, .int 1), (4, .int 2), (5, .null), (6, .int 1)]) (by decide) rfl dX0_canTake_76 ?_
                refine J_iinc (v := 3) (lv' := [(0, .ref (ka S 3 0)), (1, .ref a), (2, .int v), (3, .int 1), (4, .int 3), (5, .null), (6, .int 1)]) 4 rfl (by decide) (by decide) rfl dX0_canTake_77 ?_
                refine J_goto 5 (by decide) dX0_canTake_80 ?_
                refine J_iload 4 rfl dX0_canTake_5 ?_
                refine J_aload_n 0 rfl dX0_canTake_7 ?_
                refine gf_0_11 (n3 _) dX0_canTake_8 ?_
                refine J_alen (v := 3) 5 (n14 _) rfl rfl rfl dX0_canTake_11 ?_
                refine J_icmp_ge 83 (by decide) dX0_canTake_12 (fun c503 => ?_) (fun c503 => ?_)
                rotate_left
                · exact absurd (by decide) c503
                refine J_iload_n 2 rfl dX0_canTake_83 ?_
                refine J_if_eq 95 (by decide) dX0_canTake_84 (fun c504 => ?_) (fun c504 => ?_)
                · skip
                  refine J_iconst (v := 0) (by decide) dX0_canTake_95 ?_
                  exact J_ireturn rfl (by first | rfl | assumption | simp [kb_nar]) dX0_canTake_96 (⟨by (try simp only [kb_0, kb_1, kb_n0, kb_n1, decide_eq_false_iff_not, decide_eq_true_eq, ne_eq, Classical.not_not] at *); first | (simp [kb, kb_0, kb_1, vr_n, vr_s, takF, may_1, may_2, havF_n, havF_s, shF_none, shF_some, *]; done) | (simp [kb, kb_0, kb_1, vr_n, vr_s, takF, may_1, may_2, havF_n, havF_s, shF_none, shF_some, *] <;> grind), rfl⟩) (by omega) (by omega)
                · skip
                  refine J_iload_n 3 rfl dX0_canTake_87 ?_
                  refine J_if_eq 95 (by decide) dX0_canTake_88 (fun c505 => ?_) (fun c505 => ?_)
                  · exact absurd c505 (by decide)
                  refine J_iconst (v := 1) (by decide) dX0_canTake_91 ?_
                  refine J_goto 96 (by decide) dX0_canTake_92 ?_
                  exact J_ireturn rfl (by first | rfl | assumption | simp [kb_nar]) dX0_canTake_96 (⟨by (try simp only [kb_0, kb_1, kb_n0, kb_n1, decide_eq_false_iff_not, decide_eq_true_eq, ne_eq, Classical.not_not] at *); first | (simp [kb, kb_0, kb_1, vr_n, vr_s, takF, may_1, may_2, havF_n, havF_s, shF_none, shF_some, *]; done) | (simp [kb, kb_0, kb_1, vr_n, vr_s, takF, may_1, may_2, havF_n, havF_s, shF_none, shF_some, *] <;> grind), rfl⟩) (by omega) (by omega)
              · skip
                have ma497 : a497 ∈ LP := hsp _ _ (by decide) o496
                refine J_topv (v' := .ref a497) (by first | rfl | (rw [o496]; rfl)) ?_
                refine J_astore (lv' := [(0, .ref (ka S 3 0)), (1, .ref a), (2, .int v), (3, .int 1), (4, .int 2), (5, .ref a497), (6, .int 0)]) (by decide) rfl dX0_canTake_22 ?_
                refine J_aload 5 rfl dX0_canTake_24 ?_
                refine J_ifnull dX0_canTake_26 ?_
                refine J_aload_n 1 rfl dX0_canTake_29 ?_
                refine J_aload 5 rfl dX0_canTake_30 ?_
                refine cv_0_25 (cells' := 0) (slots' := 0) dX0_canTake_32 (c_X5_canBreakInOn (by assumption) (by assumption)) (n20 (by assumption)) ⟨by decide, by decide⟩ rfl rfl (by decide) (by decide) (Nat.le_of_ble_eq_true rfl) (fun _ _ r506 => ?_) (fun _ _ h => h.elim)
                obtain ⟨rfl, rfl⟩ := r506
                refine J_eq (st' := [.int (kb (brkF I a a497))]) rfl rfl rfl ?_
                refine J_if_eq 42 (by decide) dX0_canTake_35 (fun c507 => ?_) (fun c507 => ?_)
                · skip
                  refine J_iconst (v := 0) (by decide) dX0_canTake_42 ?_
                  refine J_istore (lv' := [(0, .ref (ka S 3 0)), (1, .ref a), (2, .int v), (3, .int 1), (4, .int 2), (5, .ref a497), (6, .int 0)]) (by decide) rfl dX0_canTake_43 ?_
                  refine J_iload 6 rfl dX0_canTake_45 ?_
                  refine J_if_ne 61 (by decide) dX0_canTake_47 (fun c508 => ?_) (fun c508 => ?_)
                  · exact absurd (by decide) c508
                  refine J_aload 5 rfl dX0_canTake_50 ?_
                  refine J_iload_n 2 rfl dX0_canTake_52 ?_
                  refine cv_0_21 (cells' := 0) (slots' := 0) dX0_canTake_53 (c_X5_sharesStationWith (by assumption)) (n20 (by assumption)) ⟨by decide, by decide⟩ rfl rfl (by decide) (by decide) (Nat.le_of_ble_eq_true rfl) (fun _ _ r509 => ?_) (fun _ _ h => h.elim)
                  obtain ⟨rfl, rfl⟩ := r509
                  refine J_eq (st' := [.int (kb (shrF I a497 v))]) rfl rfl rfl ?_
                  refine J_if_eq 61 (by decide) dX0_canTake_56 (fun c510 => ?_) (fun c510 => ?_)
                  · skip
                    refine J_iload 6 rfl dX0_canTake_61 ?_
                    refine J_if_eq 77 (by decide) dX0_canTake_63 (fun c511 => ?_) (fun c511 => ?_)
                    rotate_left
                    · exact absurd (by decide) c511
                    refine J_iinc (v := 3) (lv' := [(0, .ref (ka S 3 0)), (1, .ref a), (2, .int v), (3, .int 1), (4, .int 3), (5, .ref a497), (6, .int 0)]) 4 rfl (by decide) (by decide) rfl dX0_canTake_77 ?_
                    refine J_goto 5 (by decide) dX0_canTake_80 ?_
                    refine J_iload 4 rfl dX0_canTake_5 ?_
                    refine J_aload_n 0 rfl dX0_canTake_7 ?_
                    refine gf_0_11 (n3 _) dX0_canTake_8 ?_
                    refine J_alen (v := 3) 5 (n14 _) rfl rfl rfl dX0_canTake_11 ?_
                    refine J_icmp_ge 83 (by decide) dX0_canTake_12 (fun c513 => ?_) (fun c513 => ?_)
                    rotate_left
                    · exact absurd (by decide) c513
                    refine J_iload_n 2 rfl dX0_canTake_83 ?_
                    refine J_if_eq 95 (by decide) dX0_canTake_84 (fun c514 => ?_) (fun c514 => ?_)
                    · skip
                      refine J_iconst (v := 0) (by decide) dX0_canTake_95 ?_
                      exact J_ireturn rfl (by first | rfl | assumption | simp [kb_nar]) dX0_canTake_96 (⟨by (try simp only [kb_0, kb_1, kb_n0, kb_n1, decide_eq_false_iff_not, decide_eq_true_eq, ne_eq, Classical.not_not] at *); first | (simp [kb, kb_0, kb_1, vr_n, vr_s, takF, may_1, may_2, havF_n, havF_s, shF_none, shF_some, *]; done) | (simp [kb, kb_0, kb_1, vr_n, vr_s, takF, may_1, may_2, havF_n, havF_s, shF_none, shF_some, *] <;> grind), rfl⟩) (by omega) (by omega)
                    · skip
                      refine J_iload_n 3 rfl dX0_canTake_87 ?_
                      refine J_if_eq 95 (by decide) dX0_canTake_88 (fun c515 => ?_) (fun c515 => ?_)
                      · exact absurd c515 (by decide)
                      refine J_iconst (v := 1) (by decide) dX0_canTake_91 ?_
                      refine J_goto 96 (by decide) dX0_canTake_92 ?_
                      exact J_ireturn rfl (by first | rfl | assumption | simp [kb_nar]) dX0_canTake_96 (⟨by (try simp only [kb_0, kb_1, kb_n0, kb_n1, decide_eq_false_iff_not, decide_eq_true_eq, ne_eq, Classical.not_not] at *); first | (simp [kb, kb_0, kb_1, vr_n, vr_s, takF, may_1, may_2, havF_n, havF_s, shF_none, shF_some, *]; done) | (simp [kb, kb_0, kb_1, vr_n, vr_s, takF, may_1, may_2, havF_n, havF_s, shF_none, shF_some, *] <;> grind), rfl⟩) (by omega) (by omega)
                  · skip
                    refine J_iconst (v := 0) (by decide) dX0_canTake_59 ?_
                    exact J_ireturn rfl (by first | rfl | assumption | simp [kb_nar]) dX0_canTake_60 (⟨by (try simp only [kb_0, kb_1, kb_n0, kb_n1, decide_eq_false_iff_not, decide_eq_true_eq, ne_eq, Classical.not_not] at *); first | (simp [kb, kb_0, kb_1, vr_n, vr_s, takF, may_1, may_2, havF_n, havF_s, shF_none, shF_some, *]; done) | (simp [kb, kb_0, kb_1, vr_n, vr_s, takF, may_1, may_2, havF_n, havF_s, shF_none, shF_some, *] <;> grind), rfl⟩) (by omega) (by omega)
                · skip
                  refine J_iconst (v := 1) (by decide) dX0_canTake_38 ?_
                  refine J_goto 43 (by decide) dX0_canTake_39 ?_
                  refine J_istore (lv' := [(0, .ref (ka S 3 0)), (1, .ref a), (2, .int v), (3, .int 1), (4, .int 2), (5, .ref a497), (6, .int 1)]) (by decide) rfl dX0_canTake_43 ?_
                  refine J_iload 6 rfl dX0_canTake_45 ?_
                  refine J_if_ne 61 (by decide) dX0_canTake_47 (fun c516 => ?_) (fun c516 => ?_)
                  rotate_left
                  · exact absurd c516 (by decide)
                  refine J_iload 6 rfl dX0_canTake_61 ?_
                  refine J_if_eq 77 (by decide) dX0_canTake_63 (fun c517 => ?_) (fun c517 => ?_)
                  · exact absurd c517 (by decide)
                  refine J_aload_n 1 rfl dX0_canTake_66 ?_
                  refine J_iload 4 rfl dX0_canTake_67 ?_
                  refine cv_0_29 (cells' := 0) (slots' := 0) dX0_canTake_69 (c_X5_mayHave (by assumption)) (n20 (by assumption)) ⟨by decide, by decide⟩ rfl rfl (by decide) (by decide) (Nat.le_of_ble_eq_true rfl) (fun _ _ r518 => ?_) (fun _ _ h => h.elim)
                  obtain ⟨rfl, rfl⟩ := r518
                  refine J_eq (st' := [.int (kb (mayF I a 2))]) rfl rfl rfl ?_
                  refine J_topv (v' := .int 1) (by first | rfl | (rw [may_2]; rfl)) ?_
                  refine J_if_eq 77 (by decide) dX0_canTake_72 (fun c519 => ?_) (fun c519 => ?_)
                  · exact absurd c519 (by decide)
                  refine J_iconst (v := 1) (by decide) dX0_canTake_75 ?_
                  refine J_istore_n (lv' := [(0, .ref (ka S 3 0)), (1, .ref a), (2, .int v), (3, .int 1), (4, .int 2), (5, .ref a497), (6, .int 1)]) (by decide) rfl dX0_canTake_76 ?_
                  refine J_iinc (v := 3) (lv' := [(0, .ref (ka S 3 0)), (1, .ref a), (2, .int v), (3, .int 1), (4, .int 3), (5, .ref a497), (6, .int 1)]) 4 rfl (by decide) (by decide) rfl dX0_canTake_77 ?_
                  refine J_goto 5 (by decide) dX0_canTake_80 ?_
                  refine J_iload 4 rfl dX0_canTake_5 ?_
                  refine J_aload_n 0 rfl dX0_canTake_7 ?_
                  refine gf_0_11 (n3 _) dX0_canTake_8 ?_
                  refine J_alen (v := 3) 5 (n14 _) rfl rfl rfl dX0_canTake_11 ?_
                  refine J_icmp_ge 83 (by decide) dX0_canTake_12 (fun c521 => ?_) (fun c521 => ?_)
                  rotate_left
                  · exact absurd (by decide) c521
                  refine J_iload_n 2 rfl dX0_canTake_83 ?_
                  refine J_if_eq 95 (by decide) dX0_canTake_84 (fun c522 => ?_) (fun c522 => ?_)
                  · skip
                    refine J_iconst (v := 0) (by decide) dX0_canTake_95 ?_
                    exact J_ireturn rfl (by first | rfl | assumption | simp [kb_nar]) dX0_canTake_96 (⟨by (try simp only [kb_0, kb_1, kb_n0, kb_n1, decide_eq_false_iff_not, decide_eq_true_eq, ne_eq, Classical.not_not] at *); first | (simp [kb, kb_0, kb_1, vr_n, vr_s, takF, may_1, may_2, havF_n, havF_s, shF_none, shF_some, *]; done) | (simp [kb, kb_0, kb_1, vr_n, vr_s, takF, may_1, may_2, havF_n, havF_s, shF_none, shF_some, *] <;> grind), rfl⟩) (by omega) (by omega)
                  · skip
                    refine J_iload_n 3 rfl dX0_canTake_87 ?_
                    refine J_if_eq 95 (by decide) dX0_canTake_88 (fun c523 => ?_) (fun c523 => ?_)
                    · exact absurd c523 (by decide)
                    refine J_iconst (v := 1) (by decide) dX0_canTake_91 ?_
                    refine J_goto 96 (by decide) dX0_canTake_92 ?_
                    exact J_ireturn rfl (by first | rfl | assumption | simp [kb_nar]) dX0_canTake_96 (⟨by (try simp only [kb_0, kb_1, kb_n0, kb_n1, decide_eq_false_iff_not, decide_eq_true_eq, ne_eq, Classical.not_not] at *); first | (simp [kb, kb_0, kb_1, vr_n, vr_s, takF, may_1, may_2, havF_n, havF_s, shF_none, shF_some, *]; done) | (simp [kb, kb_0, kb_1, vr_n, vr_s, takF, may_1, may_2, havF_n, havF_s, shF_none, shF_some, *] <;> grind), rfl⟩) (by omega) (by omega)
            · skip
              refine J_iconst (v := 0) (by decide) dX0_canTake_59 ?_
              exact J_ireturn rfl (by first | rfl | assumption | simp [kb_nar]) dX0_canTake_60 (⟨by (try simp only [kb_0, kb_1, kb_n0, kb_n1, decide_eq_false_iff_not, decide_eq_true_eq, ne_eq, Classical.not_not] at *); first | (simp [kb, kb_0, kb_1, vr_n, vr_s, takF, may_1, may_2, havF_n, havF_s, shF_none, shF_some, *]; done) | (simp [kb, kb_0, kb_1, vr_n, vr_s, takF, may_1, may_2, havF_n, havF_s, shF_none, shF_some, *] <;> grind), rfl⟩) (by omega) (by omega)
          · skip
            refine J_iconst (v := 1) (by decide) dX0_canTake_38 ?_
            refine J_goto 43 (by decide) dX0_canTake_39 ?_
            refine J_istore (lv' := [(0, .ref (ka S 3 0)), (1, .ref a), (2, .int v), (3, .int 1), (4, .int 1), (5, .ref a453), (6, .int 1)]) (by decide) rfl dX0_canTake_43 ?_
            refine J_iload 6 rfl dX0_canTake_45 ?_
            refine J_if_ne 61 (by decide) dX0_canTake_47 (fun c524 => ?_) (fun c524 => ?_)
            rotate_left
            · exact absurd c524 (by decide)
            refine J_iload 6 rfl dX0_canTake_61 ?_
            refine J_if_eq 77 (by decide) dX0_canTake_63 (fun c525 => ?_) (fun c525 => ?_)
            · exact absurd c525 (by decide)
            refine J_aload_n 1 rfl dX0_canTake_66 ?_
            refine J_iload 4 rfl dX0_canTake_67 ?_
            refine cv_0_29 (cells' := 0) (slots' := 0) dX0_canTake_69 (c_X5_mayHave (by assumption)) (n20 (by assumption)) ⟨by decide, by decide⟩ rfl rfl (by decide) (by decide) (Nat.le_of_ble_eq_true rfl) (fun _ _ r526 => ?_) (fun _ _ h => h.elim)
            obtain ⟨rfl, rfl⟩ := r526
            refine J_eq (st' := [.int (kb (mayF I a 1))]) rfl rfl rfl ?_
            refine J_topv (v' := .int 1) (by first | rfl | (rw [may_1]; rfl)) ?_
            refine J_if_eq 77 (by decide) dX0_canTake_72 (fun c527 => ?_) (fun c527 => ?_)
            · exact absurd c527 (by decide)
            refine J_iconst (v := 1) (by decide) dX0_canTake_75 ?_
            refine J_istore_n (lv' := [(0, .ref (ka S 3 0)), (1, .ref a), (2, .int v), (3, .int 1), (4, .int 1), (5, .ref a453), (6, .int 1)]) (by decide) rfl dX0_canTake_76 ?_
            refine J_iinc (v := 2) (lv' := [(0, .ref (ka S 3 0)), (1, .ref a), (2, .int v), (3, .int 1), (4, .int 2), (5, .ref a453), (6, .int 1)]) 4 rfl (by decide) (by decide) rfl dX0_canTake_77 ?_
            refine J_goto 5 (by decide) dX0_canTake_80 ?_
            refine J_iload 4 rfl dX0_canTake_5 ?_
            refine J_aload_n 0 rfl dX0_canTake_7 ?_
            refine gf_0_11 (n3 _) dX0_canTake_8 ?_
            refine J_alen (v := 3) 5 (n14 _) rfl rfl rfl dX0_canTake_11 ?_
            refine J_icmp_ge 83 (by decide) dX0_canTake_12 (fun c529 => ?_) (fun c529 => ?_)
            · exact absurd c529 (by decide)
            refine J_aload_n 0 rfl dX0_canTake_15 ?_
            refine gf_0_11 (n3 _) dX0_canTake_16 ?_
            refine J_iload 4 rfl dX0_canTake_19 ?_
            refine J_aald 2 5 (n14 _) rfl rfl (vp_in_iff.mpr (by decide)) (by decide) dX0_canTake_21 ?_
            rcases opt_split (R 14 0 2) with o530 | ⟨a531, o530⟩
            · skip
              refine J_topv (v' := .null) (by first | rfl | (rw [o530]; rfl)) ?_
              refine J_astoreN (lv' := [(0, .ref (ka S 3 0)), (1, .ref a), (2, .int v), (3, .int 1), (4, .int 2), (5, .null), (6, .int 1)]) (by decide) rfl dX0_canTake_22 ?_
              refine J_aloadN 5 rfl dX0_canTake_24 ?_
              refine J_ifnullN 38 (by decide) dX0_canTake_26 ?_
              refine J_iconst (v := 1) (by decide) dX0_canTake_38 ?_
              refine J_goto 43 (by decide) dX0_canTake_39 ?_
              refine J_istore (lv' := [(0, .ref (ka S 3 0)), (1, .ref a), (2, .int v), (3, .int 1), (4, .int 2), (5, .null), (6, .int 1)]) (by decide) rfl dX0_canTake_43 ?_
              refine J_iload 6 rfl dX0_canTake_45 ?_
              refine J_if_ne 61 (by decide) dX0_canTake_47 (fun c532 => ?_) (fun c532 => ?_)
              rotate_left
              · exact absurd c532 (by decide)
              refine J_iload 6 rfl dX0_canTake_61 ?_
              refine J_if_eq 77 (by decide) dX0_canTake_63 (fun c533 => ?_) (fun c533 => ?_)
              · exact absurd c533 (by decide)
              refine J_aload_n 1 rfl dX0_canTake_66 ?_
              refine J_iload 4 rfl dX0_canTake_67 ?_
              refine cv_0_29 (cells' := 0) (slots' := 0) dX0_canTake_69 (c_X5_mayHave (by assumption)) (n20 (by assumption)) ⟨by decide, by decide⟩ rfl rfl (by decide) (by decide) (Nat.le_of_ble_eq_true rfl) (fun _ _ r534 => ?_) (fun _ _ h => h.elim)
              obtain ⟨rfl, rfl⟩ := r534
              refine J_eq (st' := [.int (kb (mayF I a 2))]) rfl rfl rfl ?_
              refine J_topv (v' := .int 1) (by first | rfl | (rw [may_2]; rfl)) ?_
              refine J_if_eq 77 (by decide) dX0_canTake_72 (fun c535 => ?_) (fun c535 => ?_)
              · exact absurd c535 (by decide)
              refine J_iconst (v := 1) (by decide) dX0_canTake_75 ?_
              refine J_istore_n (lv' := [(0, .ref (ka S 3 0)), (1, .ref a), (2, .int v), (3, .int 1), (4, .int 2), (5, .null), (6, .int 1)]) (by decide) rfl dX0_canTake_76 ?_
              refine J_iinc (v := 3) (lv' := [(0, .ref (ka S 3 0)), (1, .ref a), (2, .int v), (3, .int 1), (4, .int 3), (5, .null), (6, .int 1)]) 4 rfl (by decide) (by decide) rfl dX0_canTake_77 ?_
              refine J_goto 5 (by decide) dX0_canTake_80 ?_
              refine J_iload 4 rfl dX0_canTake_5 ?_
              refine J_aload_n 0 rfl dX0_canTake_7 ?_
              refine gf_0_11 (n3 _) dX0_canTake_8 ?_
              refine J_alen (v := 3) 5 (n14 _) rfl rfl rfl dX0_canTake_11 ?_
              refine J_icmp_ge 83 (by decide) dX0_canTake_12 (fun c537 => ?_) (fun c537 => ?_)
              rotate_left
              · exact absurd (by decide) c537
              refine J_iload_n 2 rfl dX0_canTake_83 ?_
              refine J_if_eq 95 (by decide) dX0_canTake_84 (fun c538 => ?_) (fun c538 => ?_)
              · skip
                refine J_iconst (v := 0) (by decide) dX0_canTake_95 ?_
                exact J_ireturn rfl (by first | rfl | assumption | simp [kb_nar]) dX0_canTake_96 (⟨by (try simp only [kb_0, kb_1, kb_n0, kb_n1, decide_eq_false_iff_not, decide_eq_true_eq, ne_eq, Classical.not_not] at *); first | (simp [kb, kb_0, kb_1, vr_n, vr_s, takF, may_1, may_2, havF_n, havF_s, shF_none, shF_some, *]; done) | (simp [kb, kb_0, kb_1, vr_n, vr_s, takF, may_1, may_2, havF_n, havF_s, shF_none, shF_some, *] <;> grind), rfl⟩) (by omega) (by omega)
              · skip
                refine J_iload_n 3 rfl dX0_canTake_87 ?_
                refine J_if_eq 95 (by decide) dX0_canTake_88 (fun c539 => ?_) (fun c539 => ?_)
                · exact absurd c539 (by decide)
                refine J_iconst (v := 1) (by decide) dX0_canTake_91 ?_
                refine J_goto 96 (by decide) dX0_canTake_92 ?_
                exact J_ireturn rfl (by first | rfl | assumption | simp [kb_nar]) dX0_canTake_96 (⟨by (try simp only [kb_0, kb_1, kb_n0, kb_n1, decide_eq_false_iff_not, decide_eq_true_eq, ne_eq, Classical.not_not] at *); first | (simp [kb, kb_0, kb_1, vr_n, vr_s, takF, may_1, may_2, havF_n, havF_s, shF_none, shF_some, *]; done) | (simp [kb, kb_0, kb_1, vr_n, vr_s, takF, may_1, may_2, havF_n, havF_s, shF_none, shF_some, *] <;> grind), rfl⟩) (by omega) (by omega)
            · skip
              have ma531 : a531 ∈ LP := hsp _ _ (by decide) o530
              refine J_topv (v' := .ref a531) (by first | rfl | (rw [o530]; rfl)) ?_
              refine J_astore (lv' := [(0, .ref (ka S 3 0)), (1, .ref a), (2, .int v), (3, .int 1), (4, .int 2), (5, .ref a531), (6, .int 1)]) (by decide) rfl dX0_canTake_22 ?_
              refine J_aload 5 rfl dX0_canTake_24 ?_
              refine J_ifnull dX0_canTake_26 ?_
              refine J_aload_n 1 rfl dX0_canTake_29 ?_
              refine J_aload 5 rfl dX0_canTake_30 ?_
              refine cv_0_25 (cells' := 0) (slots' := 0) dX0_canTake_32 (c_X5_canBreakInOn (by assumption) (by assumption)) (n20 (by assumption)) ⟨by decide, by decide⟩ rfl rfl (by decide) (by decide) (Nat.le_of_ble_eq_true rfl) (fun _ _ r540 => ?_) (fun _ _ h => h.elim)
              obtain ⟨rfl, rfl⟩ := r540
              refine J_eq (st' := [.int (kb (brkF I a a531))]) rfl rfl rfl ?_
              refine J_if_eq 42 (by decide) dX0_canTake_35 (fun c541 => ?_) (fun c541 => ?_)
              · skip
                refine J_iconst (v := 0) (by decide) dX0_canTake_42 ?_
                refine J_istore (lv' := [(0, .ref (ka S 3 0)), (1, .ref a), (2, .int v), (3, .int 1), (4, .int 2), (5, .ref a531), (6, .int 0)]) (by decide) rfl dX0_canTake_43 ?_
                refine J_iload 6 rfl dX0_canTake_45 ?_
                refine J_if_ne 61 (by decide) dX0_canTake_47 (fun c542 => ?_) (fun c542 => ?_)
                · exact absurd (by decide) c542
                refine J_aload 5 rfl dX0_canTake_50 ?_
                refine J_iload_n 2 rfl dX0_canTake_52 ?_
                refine cv_0_21 (cells' := 0) (slots' := 0) dX0_canTake_53 (c_X5_sharesStationWith (by assumption)) (n20 (by assumption)) ⟨by decide, by decide⟩ rfl rfl (by decide) (by decide) (Nat.le_of_ble_eq_true rfl) (fun _ _ r543 => ?_) (fun _ _ h => h.elim)
                obtain ⟨rfl, rfl⟩ := r543
                refine J_eq (st' := [.int (kb (shrF I a531 v))]) rfl rfl rfl ?_
                refine J_if_eq 61 (by decide) dX0_canTake_56 (fun c544 => ?_) (fun c544 => ?_)
                · skip
                  refine J_iload 6 rfl dX0_canTake_61 ?_
                  refine J_if_eq 77 (by decide) dX0_canTake_63 (fun c545 => ?_) (fun c545 => ?_)
                  rotate_left
                  · exact absurd (by decide) c545
                  refine J_iinc (v := 3) (lv' := [(0, .ref (ka S 3 0)), (1, .ref a), (2, .int v), (3, .int 1), (4, .int 3), (5, .ref a531), (6, .int 0)]) 4 rfl (by decide) (by decide) rfl dX0_canTake_77 ?_
                  refine J_goto 5 (by decide) dX0_canTake_80 ?_
                  refine J_iload 4 rfl dX0_canTake_5 ?_
                  refine J_aload_n 0 rfl dX0_canTake_7 ?_
                  refine gf_0_11 (n3 _) dX0_canTake_8 ?_
                  refine J_alen (v := 3) 5 (n14 _) rfl rfl rfl dX0_canTake_11 ?_
                  refine J_icmp_ge 83 (by decide) dX0_canTake_12 (fun c547 => ?_) (fun c547 => ?_)
                  rotate_left
                  · exact absurd (by decide) c547
                  refine J_iload_n 2 rfl dX0_canTake_83 ?_
                  refine J_if_eq 95 (by decide) dX0_canTake_84 (fun c548 => ?_) (fun c548 => ?_)
                  · skip
                    refine J_iconst (v := 0) (by decide) dX0_canTake_95 ?_
                    exact J_ireturn rfl (by first | rfl | assumption | simp [kb_nar]) dX0_canTake_96 (⟨by (try simp only [kb_0, kb_1, kb_n0, kb_n1, decide_eq_false_iff_not, decide_eq_true_eq, ne_eq, Classical.not_not] at *); first | (simp [kb, kb_0, kb_1, vr_n, vr_s, takF, may_1, may_2, havF_n, havF_s, shF_none, shF_some, *]; done) | (simp [kb, kb_0, kb_1, vr_n, vr_s, takF, may_1, may_2, havF_n, havF_s, shF_none, shF_some, *] <;> grind), rfl⟩) (by omega) (by omega)
                  · skip
                    refine J_iload_n 3 rfl dX0_canTake_87 ?_
                    refine J_if_eq 95 (by decide) dX0_canTake_88 (fun c549 => ?_) (fun c549 => ?_)
                    · exact absurd c549 (by decide)
                    refine J_iconst (v := 1) (by decide) dX0_canTake_91 ?_
                    refine J_goto 96 (by decide) dX0_canTake_92 ?_
                    exact J_ireturn rfl (by first | rfl | assumption | simp [kb_nar]) dX0_canTake_96 (⟨by (try simp only [kb_0, kb_1, kb_n0, kb_n1, decide_eq_false_iff_not, decide_eq_true_eq, ne_eq, Classical.not_not] at *); first | (simp [kb, kb_0, kb_1, vr_n, vr_s, takF, may_1, may_2, havF_n, havF_s, shF_none, shF_some, *]; done) | (simp [kb, kb_0, kb_1, vr_n, vr_s, takF, may_1, may_2, havF_n, havF_s, shF_none, shF_some, *] <;> grind), rfl⟩) (by omega) (by omega)
                · skip
                  refine J_iconst (v := 0) (by decide) dX0_canTake_59 ?_
                  exact J_ireturn rfl (by first | rfl | assumption | simp [kb_nar]) dX0_canTake_60 (⟨by (try simp only [kb_0, kb_1, kb_n0, kb_n1, decide_eq_false_iff_not, decide_eq_true_eq, ne_eq, Classical.not_not] at *); first | (simp [kb, kb_0, kb_1, vr_n, vr_s, takF, may_1, may_2, havF_n, havF_s, shF_none, shF_some, *]; done) | (simp [kb, kb_0, kb_1, vr_n, vr_s, takF, may_1, may_2, havF_n, havF_s, shF_none, shF_some, *] <;> grind), rfl⟩) (by omega) (by omega)
              · skip
                refine J_iconst (v := 1) (by decide) dX0_canTake_38 ?_
                refine J_goto 43 (by decide) dX0_canTake_39 ?_
                refine J_istore (lv' := [(0, .ref (ka S 3 0)), (1, .ref a), (2, .int v), (3, .int 1), (4, .int 2), (5, .ref a531), (6, .int 1)]) (by decide) rfl dX0_canTake_43 ?_
                refine J_iload 6 rfl dX0_canTake_45 ?_
                refine J_if_ne 61 (by decide) dX0_canTake_47 (fun c550 => ?_) (fun c550 => ?_)
                rotate_left
                · exact absurd c550 (by decide)
                refine J_iload 6 rfl dX0_canTake_61 ?_
                refine J_if_eq 77 (by decide) dX0_canTake_63 (fun c551 => ?_) (fun c551 => ?_)
                · exact absurd c551 (by decide)
                refine J_aload_n 1 rfl dX0_canTake_66 ?_
                refine J_iload 4 rfl dX0_canTake_67 ?_
                refine cv_0_29 (cells' := 0) (slots' := 0) dX0_canTake_69 (c_X5_mayHave (by assumption)) (n20 (by assumption)) ⟨by decide, by decide⟩ rfl rfl (by decide) (by decide) (Nat.le_of_ble_eq_true rfl) (fun _ _ r552 => ?_) (fun _ _ h => h.elim)
                obtain ⟨rfl, rfl⟩ := r552
                refine J_eq (st' := [.int (kb (mayF I a 2))]) rfl rfl rfl ?_
                refine J_topv (v' := .int 1) (by first | rfl | (rw [may_2]; rfl)) ?_
                refine J_if_eq 77 (by decide) dX0_canTake_72 (fun c553 => ?_) (fun c553 => ?_)
                · exact absurd c553 (by decide)
                refine J_iconst (v := 1) (by decide) dX0_canTake_75 ?_
                refine J_istore_n (lv' := [(0, .ref (ka S 3 0)), (1, .ref a), (2, .int v), (3, .int 1), (4, .int 2), (5, .ref a531), (6, .int 1)]) (by decide) rfl dX0_canTake_76 ?_
                refine J_iinc (v := 3) (lv' := [(0, .ref (ka S 3 0)), (1, .ref a), (2, .int v), (3, .int 1), (4, .int 3), (5, .ref a531), (6, .int 1)]) 4 rfl (by decide) (by decide) rfl dX0_canTake_77 ?_
                refine J_goto 5 (by decide) dX0_canTake_80 ?_
                refine J_iload 4 rfl dX0_canTake_5 ?_
                refine J_aload_n 0 rfl dX0_canTake_7 ?_
                refine gf_0_11 (n3 _) dX0_canTake_8 ?_
                refine J_alen (v := 3) 5 (n14 _) rfl rfl rfl dX0_canTake_11 ?_
                refine J_icmp_ge 83 (by decide) dX0_canTake_12 (fun c555 => ?_) (fun c555 => ?_)
                rotate_left
                · exact absurd (by decide) c555
                refine J_iload_n 2 rfl dX0_canTake_83 ?_
                refine J_if_eq 95 (by decide) dX0_canTake_84 (fun c556 => ?_) (fun c556 => ?_)
                · skip
                  refine J_iconst (v := 0) (by decide) dX0_canTake_95 ?_
                  exact J_ireturn rfl (by first | rfl | assumption | simp [kb_nar]) dX0_canTake_96 (⟨by (try simp only [kb_0, kb_1, kb_n0, kb_n1, decide_eq_false_iff_not, decide_eq_true_eq, ne_eq, Classical.not_not] at *); first | (simp [kb, kb_0, kb_1, vr_n, vr_s, takF, may_1, may_2, havF_n, havF_s, shF_none, shF_some, *]; done) | (simp [kb, kb_0, kb_1, vr_n, vr_s, takF, may_1, may_2, havF_n, havF_s, shF_none, shF_some, *] <;> grind), rfl⟩) (by omega) (by omega)
                · skip
                  refine J_iload_n 3 rfl dX0_canTake_87 ?_
                  refine J_if_eq 95 (by decide) dX0_canTake_88 (fun c557 => ?_) (fun c557 => ?_)
                  · exact absurd c557 (by decide)
                  refine J_iconst (v := 1) (by decide) dX0_canTake_91 ?_
                  refine J_goto 96 (by decide) dX0_canTake_92 ?_
                  exact J_ireturn rfl (by first | rfl | assumption | simp [kb_nar]) dX0_canTake_96 (⟨by (try simp only [kb_0, kb_1, kb_n0, kb_n1, decide_eq_false_iff_not, decide_eq_true_eq, ne_eq, Classical.not_not] at *); first | (simp [kb, kb_0, kb_1, vr_n, vr_s, takF, may_1, may_2, havF_n, havF_s, shF_none, shF_some, *]; done) | (simp [kb, kb_0, kb_1, vr_n, vr_s, takF, may_1, may_2, havF_n, havF_s, shF_none, shF_some, *] <;> grind), rfl⟩) (by omega) (by omega)

set_option maxRecDepth 20000 in
theorem c_X0_leastUrgentFor {cy : Nat → ClassId} {S : Nat → Nat → Nat} {I : kI} {L : kL} {R : kRf} {LP : List Nat} {a : Nat} (hsp : inLP R 14 3 LP) (ha : a ∈ LP) : Con yX0_leastUrgentFor cX0_leastUrgentFor 5 (some (.object "FoghornExchange$RadioCall")) 1 0 0 cy [.ref (ka S 3 0), .ref a] (wc cy S I L R LP) (kRet (some (va_rf (leaF I R a))) (wc cy S I L R LP)) kF := by
  refine Con_of (by decide +kernel) (Nat.le_of_ble_eq_true rfl) ?_
  refine J_eq (lv' := [(0, .ref (ka S 3 0)), (1, .ref a)]) rfl rfl rfl ?_
  refine J_null dX0_leastUrgentFor_0 ?_
  refine J_astore_nN (lv' := [(0, .ref (ka S 3 0)), (1, .ref a), (2, .null)]) (by decide) rfl dX0_leastUrgentFor_1 ?_
  refine J_iconst (v := 0) (by decide) dX0_leastUrgentFor_2 ?_
  refine J_istore_n (lv' := [(0, .ref (ka S 3 0)), (1, .ref a), (2, .null), (3, .int 0)]) (by decide) rfl dX0_leastUrgentFor_3 ?_
  refine J_iload_n 3 rfl dX0_leastUrgentFor_4 ?_
  refine J_aload_n 0 rfl dX0_leastUrgentFor_5 ?_
  refine gf_0_11 (n3 _) dX0_leastUrgentFor_6 ?_
  refine J_alen (v := 3) 5 (n14 _) rfl rfl rfl dX0_leastUrgentFor_9 ?_
  refine J_icmp_ge 56 (by decide) dX0_leastUrgentFor_10 (fun c1 => ?_) (fun c1 => ?_)
  · exact absurd c1 (by decide)
  refine J_aload_n 0 rfl dX0_leastUrgentFor_13 ?_
  refine gf_0_11 (n3 _) dX0_leastUrgentFor_14 ?_
  refine J_iload_n 3 rfl dX0_leastUrgentFor_17 ?_
  refine J_aald 0 5 (n14 _) rfl rfl (vp_in_iff.mpr (by decide)) (by decide) dX0_leastUrgentFor_18 ?_
  rcases opt_split (R 14 0 0) with o2 | ⟨a3, o2⟩
  · skip
    refine J_topv (v' := .null) (by first | rfl | (rw [o2]; rfl)) ?_
    refine J_astoreN (lv' := [(0, .ref (ka S 3 0)), (1, .ref a), (2, .null), (3, .int 0), (4, .null)]) (by decide) rfl dX0_leastUrgentFor_19 ?_
    refine J_aloadN 4 rfl dX0_leastUrgentFor_21 ?_
    refine J_ifnullN 50 (by decide) dX0_leastUrgentFor_23 ?_
    refine J_iinc (v := 1) (lv' := [(0, .ref (ka S 3 0)), (1, .ref a), (2, .null), (3, .int 1), (4, .null)]) 3 rfl (by decide) (by decide) rfl dX0_leastUrgentFor_50 ?_
    refine J_goto 4 (by decide) dX0_leastUrgentFor_53 ?_
    refine J_iload_n 3 rfl dX0_leastUrgentFor_4 ?_
    refine J_aload_n 0 rfl dX0_leastUrgentFor_5 ?_
    refine gf_0_11 (n3 _) dX0_leastUrgentFor_6 ?_
    refine J_alen (v := 3) 5 (n14 _) rfl rfl rfl dX0_leastUrgentFor_9 ?_
    refine J_icmp_ge 56 (by decide) dX0_leastUrgentFor_10 (fun c5 => ?_) (fun c5 => ?_)
    · exact absurd c5 (by decide)
    refine J_aload_n 0 rfl dX0_leastUrgentFor_13 ?_
    refine gf_0_11 (n3 _) dX0_leastUrgentFor_14 ?_
    refine J_iload_n 3 rfl dX0_leastUrgentFor_17 ?_
    refine J_aald 1 5 (n14 _) rfl rfl (vp_in_iff.mpr (by decide)) (by decide) dX0_leastUrgentFor_18 ?_
    rcases opt_split (R 14 0 1) with o6 | ⟨a7, o6⟩
    · skip
      refine J_topv (v' := .null) (by first | rfl | (rw [o6]; rfl)) ?_
      refine J_astoreN (lv' := [(0, .ref (ka S 3 0)), (1, .ref a), (2, .null), (3, .int 1), (4, .null)]) (by decide) rfl dX0_leastUrgentFor_19 ?_
      refine J_aloadN 4 rfl dX0_leastUrgentFor_21 ?_
      refine J_ifnullN 50 (by decide) dX0_leastUrgentFor_23 ?_
      refine J_iinc (v := 2) (lv' := [(0, .ref (ka S 3 0)), (1, .ref a), (2, .null), (3, .int 2), (4, .null)]) 3 rfl (by decide) (by decide) rfl dX0_leastUrgentFor_50 ?_
      refine J_goto 4 (by decide) dX0_leastUrgentFor_53 ?_
      refine J_iload_n 3 rfl dX0_leastUrgentFor_4 ?_
      refine J_aload_n 0 rfl dX0_leastUrgentFor_5 ?_
      refine gf_0_11 (n3 _) dX0_leastUrgentFor_6 ?_
      refine J_alen (v := 3) 5 (n14 _) rfl rfl rfl dX0_leastUrgentFor_9 ?_
      refine J_icmp_ge 56 (by decide) dX0_leastUrgentFor_10 (fun c9 => ?_) (fun c9 => ?_)
      · exact absurd c9 (by decide)
      refine J_aload_n 0 rfl dX0_leastUrgentFor_13 ?_
      refine gf_0_11 (n3 _) dX0_leastUrgentFor_14 ?_
      refine J_iload_n 3 rfl dX0_leastUrgentFor_17 ?_
      refine J_aald 2 5 (n14 _) rfl rfl (vp_in_iff.mpr (by decide)) (by decide) dX0_leastUrgentFor_18 ?_
      rcases opt_split (R 14 0 2) with o10 | ⟨a11, o10⟩
      · skip
        refine J_topv (v' := .null) (by first | rfl | (rw [o10]; rfl)) ?_
        refine J_astoreN (lv' := [(0, .ref (ka S 3 0)), (1, .ref a), (2, .null), (3, .int 2), (4, .null)]) (by decide) rfl dX0_leastUrgentFor_19 ?_
        refine J_aloadN 4 rfl dX0_leastUrgentFor_21 ?_
        refine J_ifnullN 50 (by decide) dX0_leastUrgentFor_23 ?_
        refine J_iinc (v := 3) (lv' := [(0, .ref (ka S 3 0)), (1, .ref a), (2, .null), (3, .int 3), (4, .null)]) 3 rfl (by decide) (by decide) rfl dX0_leastUrgentFor_50 ?_
        refine J_goto 4 (by decide) dX0_leastUrgentFor_53 ?_
        refine J_iload_n 3 rfl dX0_leastUrgentFor_4 ?_
        refine J_aload_n 0 rfl dX0_leastUrgentFor_5 ?_
        refine gf_0_11 (n3 _) dX0_leastUrgentFor_6 ?_
        refine J_alen (v := 3) 5 (n14 _) rfl rfl rfl dX0_leastUrgentFor_9 ?_
        refine J_icmp_ge 56 (by decide) dX0_leastUrgentFor_10 (fun c13 => ?_) (fun c13 => ?_)
        rotate_left
        · exact absurd (by decide) c13
        refine J_aload_nN 2 rfl dX0_leastUrgentFor_56 ?_
        exact J_areturn rfl (by first | exact Or.inl ⟨_, rfl⟩ | exact Or.inr ⟨_, rfl⟩) (by first | exact Or.inl rfl | exact Or.inr ⟨_, rfl⟩ | exact va_rf_or _) dX0_leastUrgentFor_57 (⟨by (try simp only [kb_0, kb_1, kb_n0, kb_n1, decide_eq_false_iff_not, decide_eq_true_eq, ne_eq, Classical.not_not] at *); first | (simp [kb, kb_0, kb_1, vr_n, vr_s, leaF, may_1, may_2, luF_n, luF_s1, luF_s2, *]; done) | (simp [kb, kb_0, kb_1, vr_n, vr_s, leaF, may_1, may_2, luF_n, luF_s1, luF_s2, *] <;> grind), rfl⟩) (by omega) (by omega)
      · skip
        have ma11 : a11 ∈ LP := hsp _ _ (by decide) o10
        refine J_topv (v' := .ref a11) (by first | rfl | (rw [o10]; rfl)) ?_
        refine J_astore (lv' := [(0, .ref (ka S 3 0)), (1, .ref a), (2, .null), (3, .int 2), (4, .ref a11)]) (by decide) rfl dX0_leastUrgentFor_19 ?_
        refine J_aload 4 rfl dX0_leastUrgentFor_21 ?_
        refine J_ifnull dX0_leastUrgentFor_23 ?_
        refine J_aload_n 1 rfl dX0_leastUrgentFor_26 ?_
        refine J_iload_n 3 rfl dX0_leastUrgentFor_27 ?_
        refine cv_0_29 (cells' := 0) (slots' := 0) dX0_leastUrgentFor_28 (c_X5_mayHave (by assumption)) (n20 (by assumption)) ⟨by decide, by decide⟩ rfl rfl (by decide) (by decide) (Nat.le_of_ble_eq_true rfl) (fun _ _ r14 => ?_) (fun _ _ h => h.elim)
        obtain ⟨rfl, rfl⟩ := r14
        refine J_eq (st' := [.int (kb (mayF I a 2))]) rfl rfl rfl ?_
        refine J_topv (v' := .int 1) (by first | rfl | (rw [may_2]; rfl)) ?_
        refine J_if_eq 50 (by decide) dX0_leastUrgentFor_31 (fun c15 => ?_) (fun c15 => ?_)
        · exact absurd c15 (by decide)
        refine J_aload_nN 2 rfl dX0_leastUrgentFor_34 ?_
        refine J_ifnullN 47 (by decide) dX0_leastUrgentFor_35 ?_
        refine J_aload 4 rfl dX0_leastUrgentFor_47 ?_
        refine J_astore_n (lv' := [(0, .ref (ka S 3 0)), (1, .ref a), (2, .ref a11), (3, .int 2), (4, .ref a11)]) (by decide) rfl dX0_leastUrgentFor_49 ?_
        refine J_iinc (v := 3) (lv' := [(0, .ref (ka S 3 0)), (1, .ref a), (2, .ref a11), (3, .int 3), (4, .ref a11)]) 3 rfl (by decide) (by decide) rfl dX0_leastUrgentFor_50 ?_
        refine J_goto 4 (by decide) dX0_leastUrgentFor_53 ?_
        refine J_iload_n 3 rfl dX0_leastUrgentFor_4 ?_
        refine J_aload_n 0 rfl dX0_leastUrgentFor_5 ?_
        refine gf_0_11 (n3 _) dX0_leastUrgentFor_6 ?_
        refine J_alen (v := 3) 5 (n14 _) rfl rfl rfl dX0_leastUrgentFor_9 ?_
        refine J_icmp_ge 56 (by decide) dX0_leastUrgentFor_10 (fun c17 => ?_) (fun c17 => ?_)
        rotate_left
        · exact absurd (by decide) c17
        refine J_aload_n 2 rfl dX0_leastUrgentFor_56 ?_
        exact J_areturn rfl (by first | exact Or.inl ⟨_, rfl⟩ | exact Or.inr ⟨_, rfl⟩) (by first | exact Or.inl rfl | exact Or.inr ⟨_, rfl⟩ | exact va_rf_or _) dX0_leastUrgentFor_57 (⟨by (try simp only [kb_0, kb_1, kb_n0, kb_n1, decide_eq_false_iff_not, decide_eq_true_eq, ne_eq, Classical.not_not] at *); first | (simp [kb, kb_0, kb_1, vr_n, vr_s, leaF, may_1, may_2, luF_n, luF_s1, luF_s2, *]; done) | (simp [kb, kb_0, kb_1, vr_n, vr_s, leaF, may_1, may_2, luF_n, luF_s1, luF_s2, *] <;> grind), rfl⟩) (by omega) (by omega)
    · skip
      have ma7 : a7 ∈ LP := hsp _ _ (by decide) o6
      refine J_topv (v' := .ref a7) (by first | rfl | (rw [o6]; rfl)) ?_
      refine J_astore (lv' := [(0, .ref (ka S 3 0)), (1, .ref a), (2, .null), (3, .int 1), (4, .ref a7)]) (by decide) rfl dX0_leastUrgentFor_19 ?_
      refine J_aload 4 rfl dX0_leastUrgentFor_21 ?_
      refine J_ifnull dX0_leastUrgentFor_23 ?_
      refine J_aload_n 1 rfl dX0_leastUrgentFor_26 ?_
      refine J_iload_n 3 rfl dX0_leastUrgentFor_27 ?_
      refine cv_0_29 (cells' := 0) (slots' := 0) dX0_leastUrgentFor_28 (c_X5_mayHave (by assumption)) (n20 (by assumption)) ⟨by decide, by decide⟩ rfl rfl (by decide) (by decide) (Nat.le_of_ble_eq_true rfl) (fun _ _ r18 => ?_) (fun _ _ h => h.elim)
      obtain ⟨rfl, rfl⟩ := r18
      refine J_eq (st' := [.int (kb (mayF I a 1))]) rfl rfl rfl ?_
      refine J_topv (v' := .int 1) (by first | rfl | (rw [may_1]; rfl)) ?_
      refine J_if_eq 50 (by decide) dX0_leastUrgentFor_31 (fun c19 => ?_) (fun c19 => ?_)
      · exact absurd c19 (by decide)
      refine J_aload_nN 2 rfl dX0_leastUrgentFor_34 ?_
      refine J_ifnullN 47 (by decide) dX0_leastUrgentFor_35 ?_
      refine J_aload 4 rfl dX0_leastUrgentFor_47 ?_
      refine J_astore_n (lv' := [(0, .ref (ka S 3 0)), (1, .ref a), (2, .ref a7), (3, .int 1), (4, .ref a7)]) (by decide) rfl dX0_leastUrgentFor_49 ?_
      refine J_iinc (v := 2) (lv' := [(0, .ref (ka S 3 0)), (1, .ref a), (2, .ref a7), (3, .int 2), (4, .ref a7)]) 3 rfl (by decide) (by decide) rfl dX0_leastUrgentFor_50 ?_
      refine J_goto 4 (by decide) dX0_leastUrgentFor_53 ?_
      refine J_iload_n 3 rfl dX0_leastUrgentFor_4 ?_
      refine J_aload_n 0 rfl dX0_leastUrgentFor_5 ?_
      refine gf_0_11 (n3 _) dX0_leastUrgentFor_6 ?_
      refine J_alen (v := 3) 5 (n14 _) rfl rfl rfl dX0_leastUrgentFor_9 ?_
      refine J_icmp_ge 56 (by decide) dX0_leastUrgentFor_10 (fun c21 => ?_) (fun c21 => ?_)
      · exact absurd c21 (by decide)
      refine J_aload_n 0 rfl dX0_leastUrgentFor_13 ?_
      refine gf_0_11 (n3 _) dX0_leastUrgentFor_14 ?_
      refine J_iload_n 3 rfl dX0_leastUrgentFor_17 ?_
      refine J_aald 2 5 (n14 _) rfl rfl (vp_in_iff.mpr (by decide)) (by decide) dX0_leastUrgentFor_18 ?_
      rcases opt_split (R 14 0 2) with o22 | ⟨a23, o22⟩
      · skip
        refine J_topv (v' := .null) (by first | rfl | (rw [o22]; rfl)) ?_
        refine J_astoreN (lv' := [(0, .ref (ka S 3 0)), (1, .ref a), (2, .ref a7), (3, .int 2), (4, .null)]) (by decide) rfl dX0_leastUrgentFor_19 ?_
        refine J_aloadN 4 rfl dX0_leastUrgentFor_21 ?_
        refine J_ifnullN 50 (by decide) dX0_leastUrgentFor_23 ?_
        refine J_iinc (v := 3) (lv' := [(0, .ref (ka S 3 0)), (1, .ref a), (2, .ref a7), (3, .int 3), (4, .null)]) 3 rfl (by decide) (by decide) rfl dX0_leastUrgentFor_50 ?_
        refine J_goto 4 (by decide) dX0_leastUrgentFor_53 ?_
        refine J_iload_n 3 rfl dX0_leastUrgentFor_4 ?_
        refine J_aload_n 0 rfl dX0_leastUrgentFor_5 ?_
        refine gf_0_11 (n3 _) dX0_leastUrgentFor_6 ?_
        refine J_alen (v := 3) 5 (n14 _) rfl rfl rfl dX0_leastUrgentFor_9 ?_
        refine J_icmp_ge 56 (by decide) dX0_leastUrgentFor_10 (fun c25 => ?_) (fun c25 => ?_)
        rotate_left
        · exact absurd (by decide) c25
        refine J_aload_n 2 rfl dX0_leastUrgentFor_56 ?_
        exact J_areturn rfl (by first | exact Or.inl ⟨_, rfl⟩ | exact Or.inr ⟨_, rfl⟩) (by first | exact Or.inl rfl | exact Or.inr ⟨_, rfl⟩ | exact va_rf_or _) dX0_leastUrgentFor_57 (⟨by (try simp only [kb_0, kb_1, kb_n0, kb_n1, decide_eq_false_iff_not, decide_eq_true_eq, ne_eq, Classical.not_not] at *); first | (simp [kb, kb_0, kb_1, vr_n, vr_s, leaF, may_1, may_2, luF_n, luF_s1, luF_s2, *]; done) | (simp [kb, kb_0, kb_1, vr_n, vr_s, leaF, may_1, may_2, luF_n, luF_s1, luF_s2, *] <;> grind), rfl⟩) (by omega) (by omega)
      · skip
        have ma23 : a23 ∈ LP := hsp _ _ (by decide) o22
        refine J_topv (v' := .ref a23) (by first | rfl | (rw [o22]; rfl)) ?_
        refine J_astore (lv' := [(0, .ref (ka S 3 0)), (1, .ref a), (2, .ref a7), (3, .int 2), (4, .ref a23)]) (by decide) rfl dX0_leastUrgentFor_19 ?_
        refine J_aload 4 rfl dX0_leastUrgentFor_21 ?_
        refine J_ifnull dX0_leastUrgentFor_23 ?_
        refine J_aload_n 1 rfl dX0_leastUrgentFor_26 ?_
        refine J_iload_n 3 rfl dX0_leastUrgentFor_27 ?_
        refine cv_0_29 (cells' := 0) (slots' := 0) dX0_leastUrgentFor_28 (c_X5_mayHave (by assumption)) (n20 (by assumption)) ⟨by decide, by decide⟩ rfl rfl (by decide) (by decide) (Nat.le_of_ble_eq_true rfl) (fun _ _ r26 => ?_) (fun _ _ h => h.elim)
        obtain ⟨rfl, rfl⟩ := r26
        refine J_eq (st' := [.int (kb (mayF I a 2))]) rfl rfl rfl ?_
        refine J_topv (v' := .int 1) (by first | rfl | (rw [may_2]; rfl)) ?_
        refine J_if_eq 50 (by decide) dX0_leastUrgentFor_31 (fun c27 => ?_) (fun c27 => ?_)
        · exact absurd c27 (by decide)
        refine J_aload_n 2 rfl dX0_leastUrgentFor_34 ?_
        refine J_ifnull dX0_leastUrgentFor_35 ?_
        refine J_aload 4 rfl dX0_leastUrgentFor_38 ?_
        refine J_aload_n 2 rfl dX0_leastUrgentFor_40 ?_
        refine cv_0_32 (i := 0) (cells' := 0) (slots' := 0) dX0_leastUrgentFor_41 (c_X0_isEasierToInterrupt (by assumption) (by assumption)) ⟨by decide, by decide⟩ rfl rfl (by decide) (by decide) (Nat.le_of_ble_eq_true rfl) (fun _ _ r28 => ?_) (fun _ _ h => h.elim)
        obtain ⟨rfl, rfl⟩ := r28
        refine J_eq (st' := [.int (kb (easF I a23 a7))]) rfl rfl rfl ?_
        refine J_if_eq 50 (by decide) dX0_leastUrgentFor_44 (fun c29 => ?_) (fun c29 => ?_)
        · skip
          refine J_iinc (v := 3) (lv' := [(0, .ref (ka S 3 0)), (1, .ref a), (2, .ref a7), (3, .int 3), (4, .ref a23)]) 3 rfl (by decide) (by decide) rfl dX0_leastUrgentFor_50 ?_
          refine J_goto 4 (by decide) dX0_leastUrgentFor_53 ?_
          refine J_iload_n 3 rfl dX0_leastUrgentFor_4 ?_
          refine J_aload_n 0 rfl dX0_leastUrgentFor_5 ?_
          refine gf_0_11 (n3 _) dX0_leastUrgentFor_6 ?_
          refine J_alen (v := 3) 5 (n14 _) rfl rfl rfl dX0_leastUrgentFor_9 ?_
          refine J_icmp_ge 56 (by decide) dX0_leastUrgentFor_10 (fun c31 => ?_) (fun c31 => ?_)
          rotate_left
          · exact absurd (by decide) c31
          refine J_aload_n 2 rfl dX0_leastUrgentFor_56 ?_
          exact J_areturn rfl (by first | exact Or.inl ⟨_, rfl⟩ | exact Or.inr ⟨_, rfl⟩) (by first | exact Or.inl rfl | exact Or.inr ⟨_, rfl⟩ | exact va_rf_or _) dX0_leastUrgentFor_57 (⟨by (try simp only [kb_0, kb_1, kb_n0, kb_n1, decide_eq_false_iff_not, decide_eq_true_eq, ne_eq, Classical.not_not] at *); first | (simp [kb, kb_0, kb_1, vr_n, vr_s, leaF, may_1, may_2, luF_n, luF_s1, luF_s2, *]; done) | (simp [kb, kb_0, kb_1, vr_n, vr_s, leaF, may_1, may_2, luF_n, luF_s1, luF_s2, *] <;> grind), rfl⟩) (by omega) (by omega)
        · skip
          refine J_aload 4 rfl dX0_leastUrgentFor_47 ?_
          refine J_astore_n (lv' := [(0, .ref (ka S 3 0)), (1, .ref a), (2, .ref a23), (3, .int 2), (4, .ref a23)]) (by decide) rfl dX0_leastUrgentFor_49 ?_
          refine J_iinc (v := 3) (lv' := [(0, .ref (ka S 3 0)), (1, .ref a), (2, .ref a23), (3, .int 3), (4, .ref a23)]) 3 rfl (by decide) (by decide) rfl dX0_leastUrgentFor_50 ?_
          refine J_goto 4 (by decide) dX0_leastUrgentFor_53 ?_
          refine J_iload_n 3 rfl dX0_leastUrgentFor_4 ?_
          refine J_aload_n 0 rfl dX0_leastUrgentFor_5 ?_
          refine gf_0_11 (n3 _) dX0_leastUrgentFor_6 ?_
          refine J_alen (v := 3) 5 (n14 _) rfl rfl rfl dX0_leastUrgentFor_9 ?_
          refine J_icmp_ge 56 (by decide) dX0_leastUrgentFor_10 (fun c33 => ?_) (fun c33 => ?_)
          rotate_left
          · exact absurd (by decide) c33
          refine J_aload_n 2 rfl dX0_leastUrgentFor_56 ?_
          exact J_areturn rfl (by first | exact Or.inl ⟨_, rfl⟩ | exact Or.inr ⟨_, rfl⟩) (by first | exact Or.inl rfl | exact Or.inr ⟨_, rfl⟩ | exact va_rf_or _) dX0_leastUrgentFor_57 (⟨by (try simp only [kb_0, kb_1, kb_n0, kb_n1, decide_eq_false_iff_not, decide_eq_true_eq, ne_eq, Classical.not_not] at *); first | (simp [kb, kb_0, kb_1, vr_n, vr_s, leaF, may_1, may_2, luF_n, luF_s1, luF_s2, *]; done) | (simp [kb, kb_0, kb_1, vr_n, vr_s, leaF, may_1, may_2, luF_n, luF_s1, luF_s2, *] <;> grind), rfl⟩) (by omega) (by omega)
  · skip
    have ma3 : a3 ∈ LP := hsp _ _ (by decide) o2
    refine J_topv (v' := .ref a3) (by first | rfl | (rw [o2]; rfl)) ?_
    refine J_astore (lv' := [(0, .ref (ka S 3 0)), (1, .ref a), (2, .null), (3, .int 0), (4, .ref a3)]) (by decide) rfl dX0_leastUrgentFor_19 ?_
    refine J_aload 4 rfl dX0_leastUrgentFor_21 ?_
    refine J_ifnull dX0_leastUrgentFor_23 ?_
    refine J_aload_n 1 rfl dX0_leastUrgentFor_26 ?_
    refine J_iload_n 3 rfl dX0_leastUrgentFor_27 ?_
    refine cv_0_29 (cells' := 0) (slots' := 0) dX0_leastUrgentFor_28 (c_X5_mayHave (by assumption)) (n20 (by assumption)) ⟨by decide, by decide⟩ rfl rfl (by decide) (by decide) (Nat.le_of_ble_eq_true rfl) (fun _ _ r34 => ?_) (fun _ _ h => h.elim)
    obtain ⟨rfl, rfl⟩ := r34
    refine J_eq (st' := [.int (kb (mayF I a 0))]) rfl rfl rfl ?_
    refine J_if_eq 50 (by decide) dX0_leastUrgentFor_31 (fun c35 => ?_) (fun c35 => ?_)
    · skip
      refine J_iinc (v := 1) (lv' := [(0, .ref (ka S 3 0)), (1, .ref a), (2, .null), (3, .int 1), (4, .ref a3)]) 3 rfl (by decide) (by decide) rfl dX0_leastUrgentFor_50 ?_
      refine J_goto 4 (by decide) dX0_leastUrgentFor_53 ?_
      refine J_iload_n 3 rfl dX0_leastUrgentFor_4 ?_
      refine J_aload_n 0 rfl dX0_leastUrgentFor_5 ?_
      refine gf_0_11 (n3 _) dX0_leastUrgentFor_6 ?_
      refine J_alen (v := 3) 5 (n14 _) rfl rfl rfl dX0_leastUrgentFor_9 ?_
      refine J_icmp_ge 56 (by decide) dX0_leastUrgentFor_10 (fun c37 => ?_) (fun c37 => ?_)
      · exact absurd c37 (by decide)
      refine J_aload_n 0 rfl dX0_leastUrgentFor_13 ?_
      refine gf_0_11 (n3 _) dX0_leastUrgentFor_14 ?_
      refine J_iload_n 3 rfl dX0_leastUrgentFor_17 ?_
      refine J_aald 1 5 (n14 _) rfl rfl (vp_in_iff.mpr (by decide)) (by decide) dX0_leastUrgentFor_18 ?_
      rcases opt_split (R 14 0 1) with o38 | ⟨a39, o38⟩
      · skip
        refine J_topv (v' := .null) (by first | rfl | (rw [o38]; rfl)) ?_
        refine J_astoreN (lv' := [(0, .ref (ka S 3 0)), (1, .ref a), (2, .null), (3, .int 1), (4, .null)]) (by decide) rfl dX0_leastUrgentFor_19 ?_
        refine J_aloadN 4 rfl dX0_leastUrgentFor_21 ?_
        refine J_ifnullN 50 (by decide) dX0_leastUrgentFor_23 ?_
        refine J_iinc (v := 2) (lv' := [(0, .ref (ka S 3 0)), (1, .ref a), (2, .null), (3, .int 2), (4, .null)]) 3 rfl (by decide) (by decide) rfl dX0_leastUrgentFor_50 ?_
        refine J_goto 4 (by decide) dX0_leastUrgentFor_53 ?_
        refine J_iload_n 3 rfl dX0_leastUrgentFor_4 ?_
        refine J_aload_n 0 rfl dX0_leastUrgentFor_5 ?_
        refine gf_0_11 (n3 _) dX0_leastUrgentFor_6 ?_
        refine J_alen (v := 3) 5 (n14 _) rfl rfl rfl dX0_leastUrgentFor_9 ?_
        refine J_icmp_ge 56 (by decide) dX0_leastUrgentFor_10 (fun c41 => ?_) (fun c41 => ?_)
        · exact absurd c41 (by decide)
        refine J_aload_n 0 rfl dX0_leastUrgentFor_13 ?_
        refine gf_0_11 (n3 _) dX0_leastUrgentFor_14 ?_
        refine J_iload_n 3 rfl dX0_leastUrgentFor_17 ?_
        refine J_aald 2 5 (n14 _) rfl rfl (vp_in_iff.mpr (by decide)) (by decide) dX0_leastUrgentFor_18 ?_
        rcases opt_split (R 14 0 2) with o42 | ⟨a43, o42⟩
        · skip
          refine J_topv (v' := .null) (by first | rfl | (rw [o42]; rfl)) ?_
          refine J_astoreN (lv' := [(0, .ref (ka S 3 0)), (1, .ref a), (2, .null), (3, .int 2), (4, .null)]) (by decide) rfl dX0_leastUrgentFor_19 ?_
          refine J_aloadN 4 rfl dX0_leastUrgentFor_21 ?_
          refine J_ifnullN 50 (by decide) dX0_leastUrgentFor_23 ?_
          refine J_iinc (v := 3) (lv' := [(0, .ref (ka S 3 0)), (1, .ref a), (2, .null), (3, .int 3), (4, .null)]) 3 rfl (by decide) (by decide) rfl dX0_leastUrgentFor_50 ?_
          refine J_goto 4 (by decide) dX0_leastUrgentFor_53 ?_
          refine J_iload_n 3 rfl dX0_leastUrgentFor_4 ?_
          refine J_aload_n 0 rfl dX0_leastUrgentFor_5 ?_
          refine gf_0_11 (n3 _) dX0_leastUrgentFor_6 ?_
          refine J_alen (v := 3) 5 (n14 _) rfl rfl rfl dX0_leastUrgentFor_9 ?_
          refine J_icmp_ge 56 (by decide) dX0_leastUrgentFor_10 (fun c45 => ?_) (fun c45 => ?_)
          rotate_left
          · exact absurd (by decide) c45
          refine J_aload_nN 2 rfl dX0_leastUrgentFor_56 ?_
          exact J_areturn rfl (by first | exact Or.inl ⟨_, rfl⟩ | exact Or.inr ⟨_, rfl⟩) (by first | exact Or.inl rfl | exact Or.inr ⟨_, rfl⟩ | exact va_rf_or _) dX0_leastUrgentFor_57 (⟨by (try simp only [kb_0, kb_1, kb_n0, kb_n1, decide_eq_false_iff_not, decide_eq_true_eq, ne_eq, Classical.not_not] at *); first | (simp [kb, kb_0, kb_1, vr_n, vr_s, leaF, may_1, may_2, luF_n, luF_s1, luF_s2, *]; done) | (simp [kb, kb_0, kb_1, vr_n, vr_s, leaF, may_1, may_2, luF_n, luF_s1, luF_s2, *] <;> grind), rfl⟩) (by omega) (by omega)
        · skip
          have ma43 : a43 ∈ LP := hsp _ _ (by decide) o42
          refine J_topv (v' := .ref a43) (by first | rfl | (rw [o42]; rfl)) ?_
          refine J_astore (lv' := [(0, .ref (ka S 3 0)), (1, .ref a), (2, .null), (3, .int 2), (4, .ref a43)]) (by decide) rfl dX0_leastUrgentFor_19 ?_
          refine J_aload 4 rfl dX0_leastUrgentFor_21 ?_
          refine J_ifnull dX0_leastUrgentFor_23 ?_
          refine J_aload_n 1 rfl dX0_leastUrgentFor_26 ?_
          refine J_iload_n 3 rfl dX0_leastUrgentFor_27 ?_
          refine cv_0_29 (cells' := 0) (slots' := 0) dX0_leastUrgentFor_28 (c_X5_mayHave (by assumption)) (n20 (by assumption)) ⟨by decide, by decide⟩ rfl rfl (by decide) (by decide) (Nat.le_of_ble_eq_true rfl) (fun _ _ r46 => ?_) (fun _ _ h => h.elim)
          obtain ⟨rfl, rfl⟩ := r46
          refine J_eq (st' := [.int (kb (mayF I a 2))]) rfl rfl rfl ?_
          refine J_topv (v' := .int 1) (by first | rfl | (rw [may_2]; rfl)) ?_
          refine J_if_eq 50 (by decide) dX0_leastUrgentFor_31 (fun c47 => ?_) (fun c47 => ?_)
          · exact absurd c47 (by decide)
          refine J_aload_nN 2 rfl dX0_leastUrgentFor_34 ?_
          refine J_ifnullN 47 (by decide) dX0_leastUrgentFor_35 ?_
          refine J_aload 4 rfl dX0_leastUrgentFor_47 ?_
          refine J_astore_n (lv' := [(0, .ref (ka S 3 0)), (1, .ref a), (2, .ref a43), (3, .int 2), (4, .ref a43)]) (by decide) rfl dX0_leastUrgentFor_49 ?_
          refine J_iinc (v := 3) (lv' := [(0, .ref (ka S 3 0)), (1, .ref a), (2, .ref a43), (3, .int 3), (4, .ref a43)]) 3 rfl (by decide) (by decide) rfl dX0_leastUrgentFor_50 ?_
          refine J_goto 4 (by decide) dX0_leastUrgentFor_53 ?_
          refine J_iload_n 3 rfl dX0_leastUrgentFor_4 ?_
          refine J_aload_n 0 rfl dX0_leastUrgentFor_5 ?_
          refine gf_0_11 (n3 _) dX0_leastUrgentFor_6 ?_
          refine J_alen (v := 3) 5 (n14 _) rfl rfl rfl dX0_leastUrgentFor_9 ?_
          refine J_icmp_ge 56 (by decide) dX0_leastUrgentFor_10 (fun c49 => ?_) (fun c49 => ?_)
          rotate_left
          · exact absurd (by decide) c49
          refine J_aload_n 2 rfl dX0_leastUrgentFor_56 ?_
          exact J_areturn rfl (by first | exact Or.inl ⟨_, rfl⟩ | exact Or.inr ⟨_, rfl⟩) (by first | exact Or.inl rfl | exact Or.inr ⟨_, rfl⟩ | exact va_rf_or _) dX0_leastUrgentFor_57 (⟨by (try simp only [kb_0, kb_1, kb_n0, kb_n1, decide_eq_false_iff_not, decide_eq_true_eq, ne_eq, Classical.not_not] at *); first | (simp [kb, kb_0, kb_1, vr_n, vr_s, leaF, may_1, may_2, luF_n, luF_s1, luF_s2, *]; done) | (simp [kb, kb_0, kb_1, vr_n, vr_s, leaF, may_1, may_2, luF_n, luF_s1, luF_s2, *] <;> grind), rfl⟩) (by omega) (by omega)
      · skip
        have ma39 : a39 ∈ LP := hsp _ _ (by decide) o38
        refine J_topv (v' := .ref a39) (by first | rfl | (rw [o38]; rfl)) ?_
        refine J_astore (lv' := [(0, .ref (ka S 3 0)), (1, .ref a), (2, .null), (3, .int 1), (4, .ref a39)]) (by decide) rfl dX0_leastUrgentFor_19 ?_
        refine J_aload 4 rfl dX0_leastUrgentFor_21 ?_
        refine J_ifnull dX0_leastUrgentFor_23 ?_
        refine J_aload_n 1 rfl dX0_leastUrgentFor_26 ?_
        refine J_iload_n 3 rfl dX0_leastUrgentFor_27 ?_
        refine cv_0_29 (cells' := 0) (slots' := 0) dX0_leastUrgentFor_28 (c_X5_mayHave (by assumption)) (n20 (by assumption)) ⟨by decide, by decide⟩ rfl rfl (by decide) (by decide) (Nat.le_of_ble_eq_true rfl) (fun _ _ r50 => ?_) (fun _ _ h => h.elim)
        obtain ⟨rfl, rfl⟩ := r50
        refine J_eq (st' := [.int (kb (mayF I a 1))]) rfl rfl rfl ?_
        refine J_topv (v' := .int 1) (by first | rfl | (rw [may_1]; rfl)) ?_
        refine J_if_eq 50 (by decide) dX0_leastUrgentFor_31 (fun c51 => ?_) (fun c51 => ?_)
        · exact absurd c51 (by decide)
        refine J_aload_nN 2 rfl dX0_leastUrgentFor_34 ?_
        refine J_ifnullN 47 (by decide) dX0_leastUrgentFor_35 ?_
        refine J_aload 4 rfl dX0_leastUrgentFor_47 ?_
        refine J_astore_n (lv' := [(0, .ref (ka S 3 0)), (1, .ref a), (2, .ref a39), (3, .int 1), (4, .ref a39)]) (by decide) rfl dX0_leastUrgentFor_49 ?_
        refine J_iinc (v := 2) (lv' := [(0, .ref (ka S 3 0)), (1, .ref a), (2, .ref a39), (3, .int 2), (4, .ref a39)]) 3 rfl (by decide) (by decide) rfl dX0_leastUrgentFor_50 ?_
        refine J_goto 4 (by decide) dX0_leastUrgentFor_53 ?_
        refine J_iload_n 3 rfl dX0_leastUrgentFor_4 ?_
        refine J_aload_n 0 rfl dX0_leastUrgentFor_5 ?_
        refine gf_0_11 (n3 _) dX0_leastUrgentFor_6 ?_
        refine J_alen (v := 3) 5 (n14 _) rfl rfl rfl dX0_leastUrgentFor_9 ?_
        refine J_icmp_ge 56 (by decide) dX0_leastUrgentFor_10 (fun c53 => ?_) (fun c53 => ?_)
        · exact absurd c53 (by decide)
        refine J_aload_n 0 rfl dX0_leastUrgentFor_13 ?_
        refine gf_0_11 (n3 _) dX0_leastUrgentFor_14 ?_
        refine J_iload_n 3 rfl dX0_leastUrgentFor_17 ?_
        refine J_aald 2 5 (n14 _) rfl rfl (vp_in_iff.mpr (by decide)) (by decide) dX0_leastUrgentFor_18 ?_
        rcases opt_split (R 14 0 2) with o54 | ⟨a55, o54⟩
        · skip
          refine J_topv (v' := .null) (by first | rfl | (rw [o54]; rfl)) ?_
          refine J_astoreN (lv' := [(0, .ref (ka S 3 0)), (1, .ref a), (2, .ref a39), (3, .int 2), (4, .null)]) (by decide) rfl dX0_leastUrgentFor_19 ?_
          refine J_aloadN 4 rfl dX0_leastUrgentFor_21 ?_
          refine J_ifnullN 50 (by decide) dX0_leastUrgentFor_23 ?_
          refine J_iinc (v := 3) (lv' := [(0, .ref (ka S 3 0)), (1, .ref a), (2, .ref a39), (3, .int 3), (4, .null)]) 3 rfl (by decide) (by decide) rfl dX0_leastUrgentFor_50 ?_
          refine J_goto 4 (by decide) dX0_leastUrgentFor_53 ?_
          refine J_iload_n 3 rfl dX0_leastUrgentFor_4 ?_
          refine J_aload_n 0 rfl dX0_leastUrgentFor_5 ?_
          refine gf_0_11 (n3 _) dX0_leastUrgentFor_6 ?_
          refine J_alen (v := 3) 5 (n14 _) rfl rfl rfl dX0_leastUrgentFor_9 ?_
          refine J_icmp_ge 56 (by decide) dX0_leastUrgentFor_10 (fun c57 => ?_) (fun c57 => ?_)
          rotate_left
          · exact absurd (by decide) c57
          refine J_aload_n 2 rfl dX0_leastUrgentFor_56 ?_
          exact J_areturn rfl (by first | exact Or.inl ⟨_, rfl⟩ | exact Or.inr ⟨_, rfl⟩) (by first | exact Or.inl rfl | exact Or.inr ⟨_, rfl⟩ | exact va_rf_or _) dX0_leastUrgentFor_57 (⟨by (try simp only [kb_0, kb_1, kb_n0, kb_n1, decide_eq_false_iff_not, decide_eq_true_eq, ne_eq, Classical.not_not] at *); first | (simp [kb, kb_0, kb_1, vr_n, vr_s, leaF, may_1, may_2, luF_n, luF_s1, luF_s2, *]; done) | (simp [kb, kb_0, kb_1, vr_n, vr_s, leaF, may_1, may_2, luF_n, luF_s1, luF_s2, *] <;> grind), rfl⟩) (by omega) (by omega)
        · skip
          have ma55 : a55 ∈ LP := hsp _ _ (by decide) o54
          refine J_topv (v' := .ref a55) (by first | rfl | (rw [o54]; rfl)) ?_
          refine J_astore (lv' := [(0, .ref (ka S 3 0)), (1, .ref a), (2, .ref a39), (3, .int 2), (4, .ref a55)]) (by decide) rfl dX0_leastUrgentFor_19 ?_
          refine J_aload 4 rfl dX0_leastUrgentFor_21 ?_
          refine J_ifnull dX0_leastUrgentFor_23 ?_
          refine J_aload_n 1 rfl dX0_leastUrgentFor_26 ?_
          refine J_iload_n 3 rfl dX0_leastUrgentFor_27 ?_
          refine cv_0_29 (cells' := 0) (slots' := 0) dX0_leastUrgentFor_28 (c_X5_mayHave (by assumption)) (n20 (by assumption)) ⟨by decide, by decide⟩ rfl rfl (by decide) (by decide) (Nat.le_of_ble_eq_true rfl) (fun _ _ r58 => ?_) (fun _ _ h => h.elim)
          obtain ⟨rfl, rfl⟩ := r58
          refine J_eq (st' := [.int (kb (mayF I a 2))]) rfl rfl rfl ?_
          refine J_topv (v' := .int 1) (by first | rfl | (rw [may_2]; rfl)) ?_
          refine J_if_eq 50 (by decide) dX0_leastUrgentFor_31 (fun c59 => ?_) (fun c59 => ?_)
          · exact absurd c59 (by decide)
          refine J_aload_n 2 rfl dX0_leastUrgentFor_34 ?_
          refine J_ifnull dX0_leastUrgentFor_35 ?_
          refine J_aload 4 rfl dX0_leastUrgentFor_38 ?_
          refine J_aload_n 2 rfl dX0_leastUrgentFor_40 ?_
          refine cv_0_32 (i := 0) (cells' := 0) (slots' := 0) dX0_leastUrgentFor_41 (c_X0_isEasierToInterrupt (by assumption) (by assumption)) ⟨by decide, by decide⟩ rfl rfl (by decide) (by decide) (Nat.le_of_ble_eq_true rfl) (fun _ _ r60 => ?_) (fun _ _ h => h.elim)
          obtain ⟨rfl, rfl⟩ := r60
          refine J_eq (st' := [.int (kb (easF I a55 a39))]) rfl rfl rfl ?_
          refine J_if_eq 50 (by decide) dX0_leastUrgentFor_44 (fun c61 => ?_) (fun c61 => ?_)
          · skip
            refine J_iinc (v := 3) (lv' := [(0, .ref (ka S 3 0)), (1, .ref a), (2, .ref a39), (3, .int 3), (4, .ref a55)]) 3 rfl (by decide) (by decide) rfl dX0_leastUrgentFor_50 ?_
            refine J_goto 4 (by decide) dX0_leastUrgentFor_53 ?_
            refine J_iload_n 3 rfl dX0_leastUrgentFor_4 ?_
            refine J_aload_n 0 rfl dX0_leastUrgentFor_5 ?_
            refine gf_0_11 (n3 _) dX0_leastUrgentFor_6 ?_
            refine J_alen (v := 3) 5 (n14 _) rfl rfl rfl dX0_leastUrgentFor_9 ?_
            refine J_icmp_ge 56 (by decide) dX0_leastUrgentFor_10 (fun c63 => ?_) (fun c63 => ?_)
            rotate_left
            · exact absurd (by decide) c63
            refine J_aload_n 2 rfl dX0_leastUrgentFor_56 ?_
            exact J_areturn rfl (by first | exact Or.inl ⟨_, rfl⟩ | exact Or.inr ⟨_, rfl⟩) (by first | exact Or.inl rfl | exact Or.inr ⟨_, rfl⟩ | exact va_rf_or _) dX0_leastUrgentFor_57 (⟨by (try simp only [kb_0, kb_1, kb_n0, kb_n1, decide_eq_false_iff_not, decide_eq_true_eq, ne_eq, Classical.not_not] at *); first | (simp [kb, kb_0, kb_1, vr_n, vr_s, leaF, may_1, may_2, luF_n, luF_s1, luF_s2, *]; done) | (simp [kb, kb_0, kb_1, vr_n, vr_s, leaF, may_1, may_2, luF_n, luF_s1, luF_s2, *] <;> grind), rfl⟩) (by omega) (by omega)
          · skip
            refine J_aload 4 rfl dX0_leastUrgentFor_47 ?_
            refine J_astore_n (lv' := [(0, .ref (ka S 3 0)), (1, .ref a), (2, .ref a55), (3, .int 2), (4, .ref a55)]) (by decide) rfl dX0_leastUrgentFor_49 ?_
            refine J_iinc (v := 3) (lv' := [(0, .ref (ka S 3 0)), (1, .ref a), (2, .ref a55), (3, .int 3), (4, .ref a55)]) 3 rfl (by decide) (by decide) rfl dX0_leastUrgentFor_50 ?_
            refine J_goto 4 (by decide) dX0_leastUrgentFor_53 ?_
            refine J_iload_n 3 rfl dX0_leastUrgentFor_4 ?_
            refine J_aload_n 0 rfl dX0_leastUrgentFor_5 ?_
            refine gf_0_11 (n3 _) dX0_leastUrgentFor_6 ?_
            refine J_alen (v := 3) 5 (n14 _) rfl rfl rfl dX0_leastUrgentFor_9 ?_
            refine J_icmp_ge 56 (by decide) dX0_leastUrgentFor_10 (fun c65 => ?_) (fun c65 => ?_)
            rotate_left
            · exact absurd (by decide) c65
            refine J_aload_n 2 rfl dX0_leastUrgentFor_56 ?_
            exact J_areturn rfl (by first | exact Or.inl ⟨_, rfl⟩ | exact Or.inr ⟨_, rfl⟩) (by first | exact Or.inl rfl | exact Or.inr ⟨_, rfl⟩ | exact va_rf_or _) dX0_leastUrgentFor_57 (⟨by (try simp only [kb_0, kb_1, kb_n0, kb_n1, decide_eq_false_iff_not, decide_eq_true_eq, ne_eq, Classical.not_not] at *); first | (simp [kb, kb_0, kb_1, vr_n, vr_s, leaF, may_1, may_2, luF_n, luF_s1, luF_s2, *]; done) | (simp [kb, kb_0, kb_1, vr_n, vr_s, leaF, may_1, may_2, luF_n, luF_s1, luF_s2, *] <;> grind), rfl⟩) (by omega) (by omega)
    · skip
      refine J_aload_nN 2 rfl dX0_leastUrgentFor_34 ?_
      refine J_ifnullN 47 (by decide) dX0_leastUrgentFor_35 ?_
      refine J_aload 4 rfl dX0_leastUrgentFor_47 ?_
      refine J_astore_n (lv' := [(0, .ref (ka S 3 0)), (1, .ref a), (2, .ref a3), (3, .int 0), (4, .ref a3)]) (by decide) rfl dX0_leastUrgentFor_49 ?_
      refine J_iinc (v := 1) (lv' := [(0, .ref (ka S 3 0)), (1, .ref a), (2, .ref a3), (3, .int 1), (4, .ref a3)]) 3 rfl (by decide) (by decide) rfl dX0_leastUrgentFor_50 ?_
      refine J_goto 4 (by decide) dX0_leastUrgentFor_53 ?_
      refine J_iload_n 3 rfl dX0_leastUrgentFor_4 ?_
      refine J_aload_n 0 rfl dX0_leastUrgentFor_5 ?_
      refine gf_0_11 (n3 _) dX0_leastUrgentFor_6 ?_
      refine J_alen (v := 3) 5 (n14 _) rfl rfl rfl dX0_leastUrgentFor_9 ?_
      refine J_icmp_ge 56 (by decide) dX0_leastUrgentFor_10 (fun c67 => ?_) (fun c67 => ?_)
      · exact absurd c67 (by decide)
      refine J_aload_n 0 rfl dX0_leastUrgentFor_13 ?_
      refine gf_0_11 (n3 _) dX0_leastUrgentFor_14 ?_
      refine J_iload_n 3 rfl dX0_leastUrgentFor_17 ?_
      refine J_aald 1 5 (n14 _) rfl rfl (vp_in_iff.mpr (by decide)) (by decide) dX0_leastUrgentFor_18 ?_
      rcases opt_split (R 14 0 1) with o68 | ⟨a69, o68⟩
      · skip
        refine J_topv (v' := .null) (by first | rfl | (rw [o68]; rfl)) ?_
        refine J_astoreN (lv' := [(0, .ref (ka S 3 0)), (1, .ref a), (2, .ref a3), (3, .int 1), (4, .null)]) (by decide) rfl dX0_leastUrgentFor_19 ?_
        refine J_aloadN 4 rfl dX0_leastUrgentFor_21 ?_
        refine J_ifnullN 50 (by decide) dX0_leastUrgentFor_23 ?_
        refine J_iinc (v := 2) (lv' := [(0, .ref (ka S 3 0)), (1, .ref a), (2, .ref a3), (3, .int 2), (4, .null)]) 3 rfl (by decide) (by decide) rfl dX0_leastUrgentFor_50 ?_
        refine J_goto 4 (by decide) dX0_leastUrgentFor_53 ?_
        refine J_iload_n 3 rfl dX0_leastUrgentFor_4 ?_
        refine J_aload_n 0 rfl dX0_leastUrgentFor_5 ?_
        refine gf_0_11 (n3 _) dX0_leastUrgentFor_6 ?_
        refine J_alen (v := 3) 5 (n14 _) rfl rfl rfl dX0_leastUrgentFor_9 ?_
        refine J_icmp_ge 56 (by decide) dX0_leastUrgentFor_10 (fun c71 => ?_) (fun c71 => ?_)
        · exact absurd c71 (by decide)
        refine J_aload_n 0 rfl dX0_leastUrgentFor_13 ?_
        refine gf_0_11 (n3 _) dX0_leastUrgentFor_14 ?_
        refine J_iload_n 3 rfl dX0_leastUrgentFor_17 ?_
        refine J_aald 2 5 (n14 _) rfl rfl (vp_in_iff.mpr (by decide)) (by decide) dX0_leastUrgentFor_18 ?_
        rcases opt_split (R 14 0 2) with o72 | ⟨a73, o72⟩
        · skip
          refine J_topv (v' := .null) (by first | rfl | (rw [o72]; rfl)) ?_
          refine J_astoreN (lv' := [(0, .ref (ka S 3 0)), (1, .ref a), (2, .ref a3), (3, .int 2), (4, .null)]) (by decide) rfl dX0_leastUrgentFor_19 ?_
          refine J_aloadN 4 rfl dX0_leastUrgentFor_21 ?_
          refine J_ifnullN 50 (by decide) dX0_leastUrgentFor_23 ?_
          refine J_iinc (v := 3) (lv' := [(0, .ref (ka S 3 0)), (1, .ref a), (2, .ref a3), (3, .int 3), (4, .null)]) 3 rfl (by decide) (by decide) rfl dX0_leastUrgentFor_50 ?_
          refine J_goto 4 (by decide) dX0_leastUrgentFor_53 ?_
          refine J_iload_n 3 rfl dX0_leastUrgentFor_4 ?_
          refine J_aload_n 0 rfl dX0_leastUrgentFor_5 ?_
          refine gf_0_11 (n3 _) dX0_leastUrgentFor_6 ?_
          refine J_alen (v := 3) 5 (n14 _) rfl rfl rfl dX0_leastUrgentFor_9 ?_
          refine J_icmp_ge 56 (by decide) dX0_leastUrgentFor_10 (fun c75 => ?_) (fun c75 => ?_)
          rotate_left
          · exact absurd (by decide) c75
          refine J_aload_n 2 rfl dX0_leastUrgentFor_56 ?_
          exact J_areturn rfl (by first | exact Or.inl ⟨_, rfl⟩ | exact Or.inr ⟨_, rfl⟩) (by first | exact Or.inl rfl | exact Or.inr ⟨_, rfl⟩ | exact va_rf_or _) dX0_leastUrgentFor_57 (⟨by (try simp only [kb_0, kb_1, kb_n0, kb_n1, decide_eq_false_iff_not, decide_eq_true_eq, ne_eq, Classical.not_not] at *); first | (simp [kb, kb_0, kb_1, vr_n, vr_s, leaF, may_1, may_2, luF_n, luF_s1, luF_s2, *]; done) | (simp [kb, kb_0, kb_1, vr_n, vr_s, leaF, may_1, may_2, luF_n, luF_s1, luF_s2, *] <;> grind), rfl⟩) (by omega) (by omega)
        · skip
          have ma73 : a73 ∈ LP := hsp _ _ (by decide) o72
          refine J_topv (v' := .ref a73) (by first | rfl | (rw [o72]; rfl)) ?_
          refine J_astore (lv' := [(0, .ref (ka S 3 0)), (1, .ref a), (2, .ref a3), (3, .int 2), (4, .ref a73)]) (by decide) rfl dX0_leastUrgentFor_19 ?_
          refine J_aload 4 rfl dX0_leastUrgentFor_21 ?_
          refine J_ifnull dX0_leastUrgentFor_23 ?_
          refine J_aload_n 1 rfl dX0_leastUrgentFor_26 ?_
          refine J_iload_n 3 rfl dX0_leastUrgentFor_27 ?_
          refine cv_0_29 (cells' := 0) (slots' := 0) dX0_leastUrgentFor_28 (c_X5_mayHave (by assumption)) (n20 (by assumption)) ⟨by decide, by decide⟩ rfl rfl (by decide) (by decide) (Nat.le_of_ble_eq_true rfl) (fun _ _ r76 => ?_) (fun _ _ h => h.elim)
          obtain ⟨rfl, rfl⟩ := r76
          refine J_eq (st' := [.int (kb (mayF I a 2))]) rfl rfl rfl ?_
          refine J_topv (v' := .int 1) (by first | rfl | (rw [may_2]; rfl)) ?_
          refine J_if_eq 50 (by decide) dX0_leastUrgentFor_31 (fun c77 => ?_) (fun c77 => ?_)
          · exact absurd c77 (by decide)
          refine J_aload_n 2 rfl dX0_leastUrgentFor_34 ?_
          refine J_ifnull dX0_leastUrgentFor_35 ?_
          refine J_aload 4 rfl dX0_leastUrgentFor_38 ?_
          refine J_aload_n 2 rfl dX0_leastUrgentFor_40 ?_
          refine cv_0_32 (i := 0) (cells' := 0) (slots' := 0) dX0_leastUrgentFor_41 (c_X0_isEasierToInterrupt (by assumption) (by assumption)) ⟨by decide, by decide⟩ rfl rfl (by decide) (by decide) (Nat.le_of_ble_eq_true rfl) (fun _ _ r78 => ?_) (fun _ _ h => h.elim)
          obtain ⟨rfl, rfl⟩ := r78
          refine J_eq (st' := [.int (kb (easF I a73 a3))]) rfl rfl rfl ?_
          refine J_if_eq 50 (by decide) dX0_leastUrgentFor_44 (fun c79 => ?_) (fun c79 => ?_)
          · skip
            refine J_iinc (v := 3) (lv' := [(0, .ref (ka S 3 0)), (1, .ref a), (2, .ref a3), (3, .int 3), (4, .ref a73)]) 3 rfl (by decide) (by decide) rfl dX0_leastUrgentFor_50 ?_
            refine J_goto 4 (by decide) dX0_leastUrgentFor_53 ?_
            refine J_iload_n 3 rfl dX0_leastUrgentFor_4 ?_
            refine J_aload_n 0 rfl dX0_leastUrgentFor_5 ?_
            refine gf_0_11 (n3 _) dX0_leastUrgentFor_6 ?_
            refine J_alen (v := 3) 5 (n14 _) rfl rfl rfl dX0_leastUrgentFor_9 ?_
            refine J_icmp_ge 56 (by decide) dX0_leastUrgentFor_10 (fun c81 => ?_) (fun c81 => ?_)
            rotate_left
            · exact absurd (by decide) c81
            refine J_aload_n 2 rfl dX0_leastUrgentFor_56 ?_
            exact J_areturn rfl (by first | exact Or.inl ⟨_, rfl⟩ | exact Or.inr ⟨_, rfl⟩) (by first | exact Or.inl rfl | exact Or.inr ⟨_, rfl⟩ | exact va_rf_or _) dX0_leastUrgentFor_57 (⟨by (try simp only [kb_0, kb_1, kb_n0, kb_n1, decide_eq_false_iff_not, decide_eq_true_eq, ne_eq, Classical.not_not] at *); first | (simp [kb, kb_0, kb_1, vr_n, vr_s, leaF, may_1, may_2, luF_n, luF_s1, luF_s2, *]; done) | (simp [kb, kb_0, kb_1, vr_n, vr_s, leaF, may_1, may_2, luF_n, luF_s1, luF_s2, *] <;> grind), rfl⟩) (by omega) (by omega)
          · skip
            refine J_aload 4 rfl dX0_leastUrgentFor_47 ?_
            refine J_astore_n (lv' := [(0, .ref (ka S 3 0)), (1, .ref a), (2, .ref a73), (3, .int 2), (4, .ref a73)]) (by decide) rfl dX0_leastUrgentFor_49 ?_
            refine J_iinc (v := 3) (lv' := [(0, .ref (ka S 3 0)), (1, .ref a), (2, .ref a73), (3, .int 3), (4, .ref a73)]) 3 rfl (by decide) (by decide) rfl dX0_leastUrgentFor_50 ?_
            refine J_goto 4 (by decide) dX0_leastUrgentFor_53 ?_
            refine J_iload_n 3 rfl dX0_leastUrgentFor_4 ?_
            refine J_aload_n 0 rfl dX0_leastUrgentFor_5 ?_
            refine gf_0_11 (n3 _) dX0_leastUrgentFor_6 ?_
            refine J_alen (v := 3) 5 (n14 _) rfl rfl rfl dX0_leastUrgentFor_9 ?_
            refine J_icmp_ge 56 (by decide) dX0_leastUrgentFor_10 (fun c83 => ?_) (fun c83 => ?_)
            rotate_left
            · exact absurd (by decide) c83
            refine J_aload_n 2 rfl dX0_leastUrgentFor_56 ?_
            exact J_areturn rfl (by first | exact Or.inl ⟨_, rfl⟩ | exact Or.inr ⟨_, rfl⟩) (by first | exact Or.inl rfl | exact Or.inr ⟨_, rfl⟩ | exact va_rf_or _) dX0_leastUrgentFor_57 (⟨by (try simp only [kb_0, kb_1, kb_n0, kb_n1, decide_eq_false_iff_not, decide_eq_true_eq, ne_eq, Classical.not_not] at *); first | (simp [kb, kb_0, kb_1, vr_n, vr_s, leaF, may_1, may_2, luF_n, luF_s1, luF_s2, *]; done) | (simp [kb, kb_0, kb_1, vr_n, vr_s, leaF, may_1, may_2, luF_n, luF_s1, luF_s2, *] <;> grind), rfl⟩) (by omega) (by omega)
      · skip
        have ma69 : a69 ∈ LP := hsp _ _ (by decide) o68
        refine J_topv (v' := .ref a69) (by first | rfl | (rw [o68]; rfl)) ?_
        refine J_astore (lv' := [(0, .ref (ka S 3 0)), (1, .ref a), (2, .ref a3), (3, .int 1), (4, .ref a69)]) (by decide) rfl dX0_leastUrgentFor_19 ?_
        refine J_aload 4 rfl dX0_leastUrgentFor_21 ?_
        refine J_ifnull dX0_leastUrgentFor_23 ?_
        refine J_aload_n 1 rfl dX0_leastUrgentFor_26 ?_
        refine J_iload_n 3 rfl dX0_leastUrgentFor_27 ?_
        refine cv_0_29 (cells' := 0) (slots' := 0) dX0_leastUrgentFor_28 (c_X5_mayHave (by assumption)) (n20 (by assumption)) ⟨by decide, by decide⟩ rfl rfl (by decide) (by decide) (Nat.le_of_ble_eq_true rfl) (fun _ _ r84 => ?_) (fun _ _ h => h.elim)
        obtain ⟨rfl, rfl⟩ := r84
        refine J_eq (st' := [.int (kb (mayF I a 1))]) rfl rfl rfl ?_
        refine J_topv (v' := .int 1) (by first | rfl | (rw [may_1]; rfl)) ?_
        refine J_if_eq 50 (by decide) dX0_leastUrgentFor_31 (fun c85 => ?_) (fun c85 => ?_)
        · exact absurd c85 (by decide)
        refine J_aload_n 2 rfl dX0_leastUrgentFor_34 ?_
        refine J_ifnull dX0_leastUrgentFor_35 ?_
        refine J_aload 4 rfl dX0_leastUrgentFor_38 ?_
        refine J_aload_n 2 rfl dX0_leastUrgentFor_40 ?_
        refine cv_0_32 (i := 0) (cells' := 0) (slots' := 0) dX0_leastUrgentFor_41 (c_X0_isEasierToInterrupt (by assumption) (by assumption)) ⟨by decide, by decide⟩ rfl rfl (by decide) (by decide) (Nat.le_of_ble_eq_true rfl) (fun _ _ r86 => ?_) (fun _ _ h => h.elim)
        obtain ⟨rfl, rfl⟩ := r86
        refine J_eq (st' := [.int (kb (easF I a69 a3))]) rfl rfl rfl ?_
        refine J_if_eq 50 (by decide) dX0_leastUrgentFor_44 (fun c87 => ?_) (fun c87 => ?_)
        · skip
          refine J_iinc (v := 2) (lv' := [(0, .ref (ka S 3 0)), (1, .ref a), (2, .ref a3), (3, .int 2), (4, .ref a69)]) 3 rfl (by decide) (by decide) rfl dX0_leastUrgentFor_50 ?_
          refine J_goto 4 (by decide) dX0_leastUrgentFor_53 ?_
          refine J_iload_n 3 rfl dX0_leastUrgentFor_4 ?_
          refine J_aload_n 0 rfl dX0_leastUrgentFor_5 ?_
          refine gf_0_11 (n3 _) dX0_leastUrgentFor_6 ?_
          refine J_alen (v := 3) 5 (n14 _) rfl rfl rfl dX0_leastUrgentFor_9 ?_
          refine J_icmp_ge 56 (by decide) dX0_leastUrgentFor_10 (fun c89 => ?_) (fun c89 => ?_)
          · exact absurd c89 (by decide)
          refine J_aload_n 0 rfl dX0_leastUrgentFor_13 ?_
          refine gf_0_11 (n3 _) dX0_leastUrgentFor_14 ?_
          refine J_iload_n 3 rfl dX0_leastUrgentFor_17 ?_
          refine J_aald 2 5 (n14 _) rfl rfl (vp_in_iff.mpr (by decide)) (by decide) dX0_leastUrgentFor_18 ?_
          rcases opt_split (R 14 0 2) with o90 | ⟨a91, o90⟩
          · skip
            refine J_topv (v' := .null) (by first | rfl | (rw [o90]; rfl)) ?_
            refine J_astoreN (lv' := [(0, .ref (ka S 3 0)), (1, .ref a), (2, .ref a3), (3, .int 2), (4, .null)]) (by decide) rfl dX0_leastUrgentFor_19 ?_
            refine J_aloadN 4 rfl dX0_leastUrgentFor_21 ?_
            refine J_ifnullN 50 (by decide) dX0_leastUrgentFor_23 ?_
            refine J_iinc (v := 3) (lv' := [(0, .ref (ka S 3 0)), (1, .ref a), (2, .ref a3), (3, .int 3), (4, .null)]) 3 rfl (by decide) (by decide) rfl dX0_leastUrgentFor_50 ?_
            refine J_goto 4 (by decide) dX0_leastUrgentFor_53 ?_
            refine J_iload_n 3 rfl dX0_leastUrgentFor_4 ?_
            refine J_aload_n 0 rfl dX0_leastUrgentFor_5 ?_
            refine gf_0_11 (n3 _) dX0_leastUrgentFor_6 ?_
            refine J_alen (v := 3) 5 (n14 _) rfl rfl rfl dX0_leastUrgentFor_9 ?_
            refine J_icmp_ge 56 (by decide) dX0_leastUrgentFor_10 (fun c93 => ?_) (fun c93 => ?_)
            rotate_left
            · exact absurd (by decide) c93
            refine J_aload_n 2 rfl dX0_leastUrgentFor_56 ?_
            exact J_areturn rfl (by first | exact Or.inl ⟨_, rfl⟩ | exact Or.inr ⟨_, rfl⟩) (by first | exact Or.inl rfl | exact Or.inr ⟨_, rfl⟩ | exact va_rf_or _) dX0_leastUrgentFor_57 (⟨by (try simp only [kb_0, kb_1, kb_n0, kb_n1, decide_eq_false_iff_not, decide_eq_true_eq, ne_eq, Classical.not_not] at *); first | (simp [kb, kb_0, kb_1, vr_n, vr_s, leaF, may_1, may_2, luF_n, luF_s1, luF_s2, *]; done) | (simp [kb, kb_0, kb_1, vr_n, vr_s, leaF, may_1, may_2, luF_n, luF_s1, luF_s2, *] <;> grind), rfl⟩) (by omega) (by omega)
          · skip
            have ma91 : a91 ∈ LP := hsp _ _ (by decide) o90
            refine J_topv (v' := .ref a91) (by first | rfl | (rw [o90]; rfl)) ?_
            refine J_astore (lv' := [(0, .ref (ka S 3 0)), (1, .ref a), (2, .ref a3), (3, .int 2), (4, .ref a91)]) (by decide) rfl dX0_leastUrgentFor_19 ?_
            refine J_aload 4 rfl dX0_leastUrgentFor_21 ?_
            refine J_ifnull dX0_leastUrgentFor_23 ?_
            refine J_aload_n 1 rfl dX0_leastUrgentFor_26 ?_
            refine J_iload_n 3 rfl dX0_leastUrgentFor_27 ?_
            refine cv_0_29 (cells' := 0) (slots' := 0) dX0_leastUrgentFor_28 (c_X5_mayHave (by assumption)) (n20 (by assumption)) ⟨by decide, by decide⟩ rfl rfl (by decide) (by decide) (Nat.le_of_ble_eq_true rfl) (fun _ _ r94 => ?_) (fun _ _ h => h.elim)
            obtain ⟨rfl, rfl⟩ := r94
            refine J_eq (st' := [.int (kb (mayF I a 2))]) rfl rfl rfl ?_
            refine J_topv (v' := .int 1) (by first | rfl | (rw [may_2]; rfl)) ?_
            refine J_if_eq 50 (by decide) dX0_leastUrgentFor_31 (fun c95 => ?_) (fun c95 => ?_)
            · exact absurd c95 (by decide)
            refine J_aload_n 2 rfl dX0_leastUrgentFor_34 ?_
            refine J_ifnull dX0_leastUrgentFor_35 ?_
            refine J_aload 4 rfl dX0_leastUrgentFor_38 ?_
            refine J_aload_n 2 rfl dX0_leastUrgentFor_40 ?_
            refine cv_0_32 (i := 0) (cells' := 0) (slots' := 0) dX0_leastUrgentFor_41 (c_X0_isEasierToInterrupt (by assumption) (by assumption)) ⟨by decide, by decide⟩ rfl rfl (by decide) (by decide) (Nat.le_of_ble_eq_true rfl) (fun _ _ r96 => ?_) (fun _ _ h => h.elim)
            obtain ⟨rfl, rfl⟩ := r96
            refine J_eq (st' := [.int (kb (easF I a91 a3))]) rfl rfl rfl ?_
            refine J_if_eq 50 (by decide) dX0_leastUrgentFor_44 (fun c97 => ?_) (fun c97 => ?_)
            · skip
              refine J_iinc (v := 3) (lv' := [(0, .ref (ka S 3 0)), (1, .ref a), (2, .ref a3), (3, .int 3), (4, .ref a91)]) 3 rfl (by decide) (by decide) rfl dX0_leastUrgentFor_50 ?_
              refine J_goto 4 (by decide) dX0_leastUrgentFor_53 ?_
              refine J_iload_n 3 rfl dX0_leastUrgentFor_4 ?_
              refine J_aload_n 0 rfl dX0_leastUrgentFor_5 ?_
              refine gf_0_11 (n3 _) dX0_leastUrgentFor_6 ?_
              refine J_alen (v := 3) 5 (n14 _) rfl rfl rfl dX0_leastUrgentFor_9 ?_
              refine J_icmp_ge 56 (by decide) dX0_leastUrgentFor_10 (fun c99 => ?_) (fun c99 => ?_)
              rotate_left
              · exact absurd (by decide) c99
              refine J_aload_n 2 rfl dX0_leastUrgentFor_56 ?_
              exact J_areturn rfl (by first | exact Or.inl ⟨_, rfl⟩ | exact Or.inr ⟨_, rfl⟩) (by first | exact Or.inl rfl | exact Or.inr ⟨_, rfl⟩ | exact va_rf_or _) dX0_leastUrgentFor_57 (⟨by (try simp only [kb_0, kb_1, kb_n0, kb_n1, decide_eq_false_iff_not, decide_eq_true_eq, ne_eq, Classical.not_not] at *); first | (simp [kb, kb_0, kb_1, vr_n, vr_s, leaF, may_1, may_2, luF_n, luF_s1, luF_s2, *]; done) | (simp [kb, kb_0, kb_1, vr_n, vr_s, leaF, may_1, may_2, luF_n, luF_s1, luF_s2, *] <;> grind), rfl⟩) (by omega) (by omega)
            · skip
              refine J_aload 4 rfl dX0_leastUrgentFor_47 ?_
              refine J_astore_n (lv' := [(0, .ref (ka S 3 0)), (1, .ref a), (2, .ref a91), (3, .int 2), (4, .ref a91)]) (by decide) rfl dX0_leastUrgentFor_49 ?_
              refine J_iinc (v := 3) (lv' := [(0, .ref (ka S 3 0)), (1, .ref a), (2, .ref a91), (3, .int 3), (4, .ref a91)]) 3 rfl (by decide) (by decide) rfl dX0_leastUrgentFor_50 ?_
              refine J_goto 4 (by decide) dX0_leastUrgentFor_53 ?_
              refine J_iload_n 3 rfl dX0_leastUrgentFor_4 ?_
              refine J_aload_n 0 rfl dX0_leastUrgentFor_5 ?_
              refine gf_0_11 (n3 _) dX0_leastUrgentFor_6 ?_
              refine J_alen (v := 3) 5 (n14 _) rfl rfl rfl dX0_leastUrgentFor_9 ?_
              refine J_icmp_ge 56 (by decide) dX0_leastUrgentFor_10 (fun c101 => ?_) (fun c101 => ?_)
              rotate_left
              · exact absurd (by decide) c101
              refine J_aload_n 2 rfl dX0_leastUrgentFor_56 ?_
              exact J_areturn rfl (by first | exact Or.inl ⟨_, rfl⟩ | exact Or.inr ⟨_, rfl⟩) (by first | exact Or.inl rfl | exact Or.inr ⟨_, rfl⟩ | exact va_rf_or _) dX0_leastUrgentFor_57 (⟨by (try simp only [kb_0, kb_1, kb_n0, kb_n1, decide_eq_false_iff_not, decide_eq_true_eq, ne_eq, Classical.not_not] at *); first | (simp [kb, kb_0, kb_1, vr_n, vr_s, leaF, may_1, may_2, luF_n, luF_s1, luF_s2, *]; done) | (simp [kb, kb_0, kb_1, vr_n, vr_s, leaF, may_1, may_2, luF_n, luF_s1, luF_s2, *] <;> grind), rfl⟩) (by omega) (by omega)
        · skip
          refine J_aload 4 rfl dX0_leastUrgentFor_47 ?_
          refine J_astore_n (lv' := [(0, .ref (ka S 3 0)), (1, .ref a), (2, .ref a69), (3, .int 1), (4, .ref a69)]) (by decide) rfl dX0_leastUrgentFor_49 ?_
          refine J_iinc (v := 2) (lv' := [(0, .ref (ka S 3 0)), (1, .ref a), (2, .ref a69), (3, .int 2), (4, .ref a69)]) 3 rfl (by decide) (by decide) rfl dX0_leastUrgentFor_50 ?_
          refine J_goto 4 (by decide) dX0_leastUrgentFor_53 ?_
          refine J_iload_n 3 rfl dX0_leastUrgentFor_4 ?_
          refine J_aload_n 0 rfl dX0_leastUrgentFor_5 ?_
          refine gf_0_11 (n3 _) dX0_leastUrgentFor_6 ?_
          refine J_alen (v := 3) 5 (n14 _) rfl rfl rfl dX0_leastUrgentFor_9 ?_
          refine J_icmp_ge 56 (by decide) dX0_leastUrgentFor_10 (fun c103 => ?_) (fun c103 => ?_)
          · exact absurd c103 (by decide)
          refine J_aload_n 0 rfl dX0_leastUrgentFor_13 ?_
          refine gf_0_11 (n3 _) dX0_leastUrgentFor_14 ?_
          refine J_iload_n 3 rfl dX0_leastUrgentFor_17 ?_
          refine J_aald 2 5 (n14 _) rfl rfl (vp_in_iff.mpr (by decide)) (by decide) dX0_leastUrgentFor_18 ?_
          rcases opt_split (R 14 0 2) with o104 | ⟨a105, o104⟩
          · skip
            refine J_topv (v' := .null) (by first | rfl | (rw [o104]; rfl)) ?_
            refine J_astoreN (lv' := [(0, .ref (ka S 3 0)), (1, .ref a), (2, .ref a69), (3, .int 2), (4, .null)]) (by decide) rfl dX0_leastUrgentFor_19 ?_
            refine J_aloadN 4 rfl dX0_leastUrgentFor_21 ?_
            refine J_ifnullN 50 (by decide) dX0_leastUrgentFor_23 ?_
            refine J_iinc (v := 3) (lv' := [(0, .ref (ka S 3 0)), (1, .ref a), (2, .ref a69), (3, .int 3), (4, .null)]) 3 rfl (by decide) (by decide) rfl dX0_leastUrgentFor_50 ?_
            refine J_goto 4 (by decide) dX0_leastUrgentFor_53 ?_
            refine J_iload_n 3 rfl dX0_leastUrgentFor_4 ?_
            refine J_aload_n 0 rfl dX0_leastUrgentFor_5 ?_
            refine gf_0_11 (n3 _) dX0_leastUrgentFor_6 ?_
            refine J_alen (v := 3) 5 (n14 _) rfl rfl rfl dX0_leastUrgentFor_9 ?_
            refine J_icmp_ge 56 (by decide) dX0_leastUrgentFor_10 (fun c107 => ?_) (fun c107 => ?_)
            rotate_left
            · exact absurd (by decide) c107
            refine J_aload_n 2 rfl dX0_leastUrgentFor_56 ?_
            exact J_areturn rfl (by first | exact Or.inl ⟨_, rfl⟩ | exact Or.inr ⟨_, rfl⟩) (by first | exact Or.inl rfl | exact Or.inr ⟨_, rfl⟩ | exact va_rf_or _) dX0_leastUrgentFor_57 (⟨by (try simp only [kb_0, kb_1, kb_n0, kb_n1, decide_eq_false_iff_not, decide_eq_true_eq, ne_eq, Classical.not_not] at *); first | (simp [kb, kb_0, kb_1, vr_n, vr_s, leaF, may_1, may_2, luF_n, luF_s1, luF_s2, *]; done) | (simp [kb, kb_0, kb_1, vr_n, vr_s, leaF, may_1, may_2, luF_n, luF_s1, luF_s2, *] <;> grind), rfl⟩) (by omega) (by omega)
          · skip
            have ma105 : a105 ∈ LP := hsp _ _ (by decide) o104
            refine J_topv (v' := .ref a105) (by first | rfl | (rw [o104]; rfl)) ?_
            refine J_astore (lv' := [(0, .ref (ka S 3 0)), (1, .ref a), (2, .ref a69), (3, .int 2), (4, .ref a105)]) (by decide) rfl dX0_leastUrgentFor_19 ?_
            refine J_aload 4 rfl dX0_leastUrgentFor_21 ?_
            refine J_ifnull dX0_leastUrgentFor_23 ?_
            refine J_aload_n 1 rfl dX0_leastUrgentFor_26 ?_
            refine J_iload_n 3 rfl dX0_leastUrgentFor_27 ?_
            refine cv_0_29 (cells' := 0) (slots' := 0) dX0_leastUrgentFor_28 (c_X5_mayHave (by assumption)) (n20 (by assumption)) ⟨by decide, by decide⟩ rfl rfl (by decide) (by decide) (Nat.le_of_ble_eq_true rfl) (fun _ _ r108 => ?_) (fun _ _ h => h.elim)
            obtain ⟨rfl, rfl⟩ := r108
            refine J_eq (st' := [.int (kb (mayF I a 2))]) rfl rfl rfl ?_
            refine J_topv (v' := .int 1) (by first | rfl | (rw [may_2]; rfl)) ?_
            refine J_if_eq 50 (by decide) dX0_leastUrgentFor_31 (fun c109 => ?_) (fun c109 => ?_)
            · exact absurd c109 (by decide)
            refine J_aload_n 2 rfl dX0_leastUrgentFor_34 ?_
            refine J_ifnull dX0_leastUrgentFor_35 ?_
            refine J_aload 4 rfl dX0_leastUrgentFor_38 ?_
            refine J_aload_n 2 rfl dX0_leastUrgentFor_40 ?_
            refine cv_0_32 (i := 0) (cells' := 0) (slots' := 0) dX0_leastUrgentFor_41 (c_X0_isEasierToInterrupt (by assumption) (by assumption)) ⟨by decide, by decide⟩ rfl rfl (by decide) (by decide) (Nat.le_of_ble_eq_true rfl) (fun _ _ r110 => ?_) (fun _ _ h => h.elim)
            obtain ⟨rfl, rfl⟩ := r110
            refine J_eq (st' := [.int (kb (easF I a105 a69))]) rfl rfl rfl ?_
            refine J_if_eq 50 (by decide) dX0_leastUrgentFor_44 (fun c111 => ?_) (fun c111 => ?_)
            · skip
              refine J_iinc (v := 3) (lv' := [(0, .ref (ka S 3 0)), (1, .ref a), (2, .ref a69), (3, .int 3), (4, .ref a105)]) 3 rfl (by decide) (by decide) rfl dX0_leastUrgentFor_50 ?_
              refine J_goto 4 (by decide) dX0_leastUrgentFor_53 ?_
              refine J_iload_n 3 rfl dX0_leastUrgentFor_4 ?_
              refine J_aload_n 0 rfl dX0_leastUrgentFor_5 ?_
              refine gf_0_11 (n3 _) dX0_leastUrgentFor_6 ?_
              refine J_alen (v := 3) 5 (n14 _) rfl rfl rfl dX0_leastUrgentFor_9 ?_
              refine J_icmp_ge 56 (by decide) dX0_leastUrgentFor_10 (fun c113 => ?_) (fun c113 => ?_)
              rotate_left
              · exact absurd (by decide) c113
              refine J_aload_n 2 rfl dX0_leastUrgentFor_56 ?_
              exact J_areturn rfl (by first | exact Or.inl ⟨_, rfl⟩ | exact Or.inr ⟨_, rfl⟩) (by first | exact Or.inl rfl | exact Or.inr ⟨_, rfl⟩ | exact va_rf_or _) dX0_leastUrgentFor_57 (⟨by (try simp only [kb_0, kb_1, kb_n0, kb_n1, decide_eq_false_iff_not, decide_eq_true_eq, ne_eq, Classical.not_not] at *); first | (simp [kb, kb_0, kb_1, vr_n, vr_s, leaF, may_1, may_2, luF_n, luF_s1, luF_s2, *]; done) | (simp [kb, kb_0, kb_1, vr_n, vr_s, leaF, may_1, may_2, luF_n, luF_s1, luF_s2, *] <;> grind), rfl⟩) (by omega) (by omega)
            · skip
              refine J_aload 4 rfl dX0_leastUrgentFor_47 ?_
              refine J_astore_n (lv' := [(0, .ref (ka S 3 0)), (1, .ref a), (2, .ref a105), (3, .int 2), (4, .ref a105)]) (by decide) rfl dX0_leastUrgentFor_49 ?_
              refine J_iinc (v := 3) (lv' := [(0, .ref (ka S 3 0)), (1, .ref a), (2, .ref a105), (3, .int 3), (4, .ref a105)]) 3 rfl (by decide) (by decide) rfl dX0_leastUrgentFor_50 ?_
              refine J_goto 4 (by decide) dX0_leastUrgentFor_53 ?_
              refine J_iload_n 3 rfl dX0_leastUrgentFor_4 ?_
              refine J_aload_n 0 rfl dX0_leastUrgentFor_5 ?_
              refine gf_0_11 (n3 _) dX0_leastUrgentFor_6 ?_
              refine J_alen (v := 3) 5 (n14 _) rfl rfl rfl dX0_leastUrgentFor_9 ?_
              refine J_icmp_ge 56 (by decide) dX0_leastUrgentFor_10 (fun c115 => ?_) (fun c115 => ?_)
              rotate_left
              · exact absurd (by decide) c115
              refine J_aload_n 2 rfl dX0_leastUrgentFor_56 ?_
              exact J_areturn rfl (by first | exact Or.inl ⟨_, rfl⟩ | exact Or.inr ⟨_, rfl⟩) (by first | exact Or.inl rfl | exact Or.inr ⟨_, rfl⟩ | exact va_rf_or _) dX0_leastUrgentFor_57 (⟨by (try simp only [kb_0, kb_1, kb_n0, kb_n1, decide_eq_false_iff_not, decide_eq_true_eq, ne_eq, Classical.not_not] at *); first | (simp [kb, kb_0, kb_1, vr_n, vr_s, leaF, may_1, may_2, luF_n, luF_s1, luF_s2, *]; done) | (simp [kb, kb_0, kb_1, vr_n, vr_s, leaF, may_1, may_2, luF_n, luF_s1, luF_s2, *] <;> grind), rfl⟩) (by omega) (by omega)

