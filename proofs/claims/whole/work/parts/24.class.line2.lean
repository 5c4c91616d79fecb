/-! Line: leave, the reads; LogBook; the channels' writes -/

set_option maxRecDepth 20000 in
set_option maxHeartbeats 1000000 in
theorem c_X3_leave {cy : Nat → ClassId} {S : Nat → Nat → Nat} {I : kI} {L : kL} {R : kRf} {LP : List Nat} {lo lq : List Nat} {a : Nat} (hn : lo.length ≤ 24) (hlo : ∀ x ∈ lo, x ∈ LP) (hsz : I 2 0 2 = nI lo.length) (hR : arrL R 12 24 lo) (hq : lq.length ≤ 24) (hlq : ∀ x ∈ lq, x ∈ LP) (hszq : I 2 0 2 = nI lq.length) (hR2 : arrL R 13 24 lq) (hm : a ∈ lo) (hm2 : a ∈ lq) : Con yX3_leave cX3_leave 2 none 1 0 0 cy [.ref (ka S 2 0), .ref a] (wc cy S I L R LP) (fun r w' => ∃ R' : kRf, r = none ∧ w' = wc cy S (ku I 2 0 2 (nI (lo.length - 1))) L R' LP ∧ arrL R' 12 24 (lo.erase a) ∧ arrL R' 13 24 (lq.erase a) ∧ ∀ k' i', (k', i') ≠ (12, 0) → (k', i') ≠ (13, 0) → R' k' i' = R k' i') kF := by
  refine Con_of (by decide +kernel) (Nat.le_of_ble_eq_true rfl) ?_
  refine J_eq (lv' := [(0, .ref (ka S 2 0)), (1, .ref a)]) rfl rfl rfl ?_
  refine J_aload_n 0 rfl dX3_leave_0 ?_
  refine gf_3_11 (n2 _) dX3_leave_1 ?_
  refine J_aload_n 1 rfl dX3_leave_4 ?_
  refine cv_3_28 (i := 0) (cells' := 0) (slots' := 0) dX3_leave_5 (c_X3_takeOut_12 hn hlo (hlo a hm) hR) ⟨by decide, by decide⟩ rfl rfl (by decide) (by decide) (Nat.le_of_ble_eq_true rfl) (fun _ _ r1 => ?_) (fun _ _ h => h.elim)
  obtain ⟨R1, rfl, rfl, hA1, hF1⟩ := r1
  refine J_eq (st' := [.int (kb (decide (a ∈ lo)))]) rfl rfl rfl ?_
  rw [decide_eq_true hm]
  have hR3 : arrL R1 13 24 lq := fun j hj => by rw [hF1 13 0 (by decide)]; exact hR2 j hj
  refine J_if_eq 32 (by decide) dX3_leave_8 (fun c2 => ?_) (fun c2 => ?_)
  · exfalso
    exact absurd c2 (by decide)
  refine J_aload_n 0 rfl dX3_leave_11 ?_
  refine gf_3_17 (n2 _) dX3_leave_12 ?_
  refine J_aload_n 1 rfl dX3_leave_15 ?_
  refine cv_3_28 (i := 0) (cells' := 0) (slots' := 0) dX3_leave_16 (c_X3_takeOut_13 (R := R1) hq hlq (hlo a hm) hR3) ⟨by decide, by decide⟩ rfl rfl (by decide) (by decide) (Nat.le_of_ble_eq_true rfl) (fun _ _ r3 => ?_) (fun _ _ h => h.elim)
  obtain ⟨R2, rfl, rfl, hA2, hF2⟩ := r3
  refine J_eq (st' := [.int (kb (decide (a ∈ lq)))]) rfl rfl rfl ?_
  rw [decide_eq_true hm2]
  refine J_if_eq 32 (by decide) dX3_leave_19 (fun c4 => ?_) (fun c4 => ?_)
  · exfalso
    exact absurd c4 (by decide)
  refine J_aload_n 0 rfl dX3_leave_22 ?_
  refine J_dup rfl dX3_leave_23 ?_
  refine gf_3_20 (n2 _) dX3_leave_24 ?_
  refine J_iconst (v := 1) (by decide) dX3_leave_27 ?_
  refine J_isub dX3_leave_28 ?_
  refine pf_3_20 (n2 _) dX3_leave_29 ?_
  exact J_return rfl dX3_leave_32 (⟨R2, rfl, by rw [hsz]; rw [show (1 : Int32) = nI 1 from rfl, nI_subL (List.length_pos_of_mem hm)], fun j hj => by rw [hF2 12 0 (by decide)]; exact hA1 j hj, hA2, fun k' i' h1 h2 => by rw [hF2 k' i' h2, hF1 k' i' h1]⟩) (by omega) (by omega)
def lnAt (l : List Nat) (r : Int32) : Option Nat := if 0 ≤ r then l[r.toNatClampNeg]? else none
theorem lnAt_n {l : List Nat} {r : Nat} (h : r < 2 ^ 31) : lnAt l (nI r) = l[r]? := by unfold lnAt; rw [if_pos (nI_pos' h), nI_toNat h]

theorem vp24 {c : Int32} (h0 : ¬ c < 0) (h1 : ¬ 24 ≤ c) : vp_in c 24 := by
  have e : (24 : Int32).toInt = 24 := by decide
  have e0 : (0 : Int32).toInt = 0 := by decide
  rw [Int32.lt_iff_toInt_lt] at h0
  rw [Int32.le_iff_toInt_le] at h1
  rw [vp_in_iff]
  omega
theorem lnAt_neg {l : List Nat} {r : Int32} (h : r < 0) : lnAt l r = none := if_neg (by grind)
theorem lnAt_ge {l : List Nat} {r : Int32} (h : ¬ r < 0) (hl : l.length < 2 ^ 31) (h2 : nI l.length ≤ r) : lnAt l r = none := by
  obtain ⟨j, hj, rfl⟩ := nI_of h
  rw [lnAt_n hj, List.getElem?_eq_none ((nI_leI hl hj).mp h2)]
theorem lnAt_in {l : List Nat} {r : Int32} (h : ¬ r < 0) : lnAt l r = l[r.toNatClampNeg]? := if_pos (by grind)

set_option maxRecDepth 20000 in
set_option maxHeartbeats 1000000 in
theorem c_X3_at {cy : Nat → ClassId} {S : Nat → Nat → Nat} {I : kI} {L : kL} {R : kRf} {LP : List Nat} {lo : List Nat} {r : Int32} (hn : lo.length ≤ 24) (hlo : ∀ x ∈ lo, x ∈ LP) (hsz : I 2 0 2 = nI lo.length) (hR : arrL R 12 24 lo) : Con yX3_at cX3_at 2 (some (.object "FoghornExchange$RadioCall")) 0 0 0 cy [.ref (ka S 2 0), .int r] (wc cy S I L R LP) (kRet (some (va_rf (lnAt lo r))) (wc cy S I L R LP)) kF := by
  refine Con_of (by decide +kernel) (Nat.le_of_ble_eq_true rfl) ?_
  refine J_eq (lv' := [(0, .ref (ka S 2 0)), (1, .int r)]) rfl rfl rfl ?_
  refine J_iload_n 1 rfl dX3_at_0 ?_
  refine J_if_lt 30 (by decide) dX3_at_1 (fun c1 => ?_) (fun c1 => ?_)
  · skip
    refine J_null dX3_at_30 ?_
    exact J_areturn rfl (by first | exact Or.inl ⟨_, rfl⟩ | exact Or.inr ⟨_, rfl⟩) (by first | exact Or.inl rfl | exact Or.inr ⟨_, rfl⟩ | exact va_rf_or _) dX3_at_31 (⟨by first | (rw [lnAt_neg (by assumption)]; rfl) | (rw [lnAt_n (by omega), List.getElem?_eq_none (by omega)]; rfl) | (rw [lnAt_n (by omega), ← hR j (by omega)]; simp [vr_n, vr_s, *]), rfl⟩) (by omega) (by omega)
  · skip
    obtain ⟨j, hj, rfl⟩ := nI_of c1
    refine J_iload_n 1 rfl dX3_at_4 ?_
    refine J_aload_n 0 rfl dX3_at_5 ?_
    refine gf_3_20 (n2 _) dX3_at_6 ?_
    refine J_topeq (nI lo.length) hsz ?_
    refine J_icmp_ge 30 (by decide) dX3_at_9 (fun c2 => ?_) (fun c2 => ?_)
    · have Nc2 : lo.length ≤ j := (nI_leI (a := lo.length) (b := j) (by omega) (by omega)).mp c2
      refine J_null dX3_at_30 ?_
      exact J_areturn rfl (by first | exact Or.inl ⟨_, rfl⟩ | exact Or.inr ⟨_, rfl⟩) (by first | exact Or.inl rfl | exact Or.inr ⟨_, rfl⟩ | exact va_rf_or _) dX3_at_31 (⟨by first | (rw [lnAt_neg (by assumption)]; rfl) | (rw [lnAt_n (by omega), List.getElem?_eq_none (by omega)]; rfl) | (rw [lnAt_n (by omega), ← hR j (by omega)]; simp [vr_n, vr_s, *]), rfl⟩) (by omega) (by omega)
    · have Nc2 : ¬ (lo.length ≤ j) := fun q => c2 ((nI_leI (a := lo.length) (b := j) (by omega) (by omega)).mpr q)
      refine J_iload_n 1 rfl dX3_at_12 ?_
      refine J_aload_n 0 rfl dX3_at_13 ?_
      refine gf_3_11 (n2 _) dX3_at_14 ?_
      refine J_alen (v := 24) 5 (n12 _) rfl rfl rfl dX3_at_17 ?_
      refine J_icmp_ge 30 (by decide) dX3_at_18 (fun c3 => ?_) (fun c3 => ?_)
      · exfalso
        have Nc3 : 24 ≤ j := (nI_leI (a := 24) (b := j) (by omega) (by omega)).mp c3
        omega
      have Nc3 : ¬ (24 ≤ j) := fun q => c3 ((nI_leI (a := 24) (b := j) (by omega) (by omega)).mpr q)
      refine J_aload_n 0 rfl dX3_at_21 ?_
      refine gf_3_11 (n2 _) dX3_at_22 ?_
      refine J_iload_n 1 rfl dX3_at_25 ?_
      refine J_aald j 5 (n12 _) rfl rfl (vp_in_nI (by omega) (by decide)) (nI_toNat (by omega)) dX3_at_26 ?_
      rcases opt_split (R 12 0 j) with o4 | ⟨a5, o4⟩
      · skip
        refine J_topv (v' := .null) (by first | rfl | (rw [o4]; rfl)) ?_
        refine J_goto 31 (by decide) dX3_at_27 ?_
        exact J_areturn rfl (by first | exact Or.inl ⟨_, rfl⟩ | exact Or.inr ⟨_, rfl⟩) (by first | exact Or.inl rfl | exact Or.inr ⟨_, rfl⟩ | exact va_rf_or _) dX3_at_31 (⟨by first | (rw [lnAt_neg (by assumption)]; rfl) | (rw [lnAt_n (by omega), List.getElem?_eq_none (by omega)]; rfl) | (rw [lnAt_n (by omega), ← hR j (by omega)]; simp [vr_n, vr_s, *]), rfl⟩) (by omega) (by omega)
      · skip
        have ma5 : a5 ∈ LP := (arrL_LP hR hlo) _ _ (by omega) o4
        refine J_topv (v' := .ref a5) (by first | rfl | (rw [o4]; rfl)) ?_
        refine J_goto 31 (by decide) dX3_at_27 ?_
        exact J_areturn rfl (by first | exact Or.inl ⟨_, rfl⟩ | exact Or.inr ⟨_, rfl⟩) (by first | exact Or.inl rfl | exact Or.inr ⟨_, rfl⟩ | exact va_rf_or _) dX3_at_31 (⟨by first | (rw [lnAt_neg (by assumption)]; rfl) | (rw [lnAt_n (by omega), List.getElem?_eq_none (by omega)]; rfl) | (rw [lnAt_n (by omega), ← hR j (by omega)]; simp [vr_n, vr_s, *]), rfl⟩) (by omega) (by omega)
/-- how many of a queue are ahead of a call -/
def cntA (I : kI) (l : List Nat) (a : Nat) : Nat := l.countP (fun b => ahdF I b a)
theorem cnt_s {p : Nat → Bool} {l : List Nat} {i b : Nat} (h : l[i]? = some b) : (l.take (i + 1)).countP p = (l.take i).countP p + (if p b then 1 else 0) := by
  rw [List.take_succ, List.countP_append, h]
  simp
theorem cnt_le {p : Nat → Bool} {l : List Nat} : l.countP p ≤ l.length := List.countP_le_length
theorem drop_c {l : List Nat} {i b : Nat} (h : l[i]? = some b) : l.drop i = b :: l.drop (i + 1) := by
  obtain ⟨h1, h2⟩ := List.getElem?_eq_some_iff.mp h
  rw [List.drop_eq_getElem_cons h1, h2]

set_option maxRecDepth 20000 in
set_option maxHeartbeats 1000000 in
theorem l_X3_countAhead {cy : Nat → ClassId} {S : Nat → Nat → Nat} {I : kI} {L : kL} {R : kRf} {LP : List Nat} {lq : List Nat} {a : Nat} (hq : lq.length ≤ 24) (hlq : ∀ x ∈ lq, x ∈ LP) (hszq : I 2 0 2 = nI lq.length) (hR2 : arrL R 13 24 lq) (ha : a ∈ LP) : ∀ (m i : Nat), i + m = lq.length →
    J yX3_countAhead.cls yX3_countAhead.name cX3_countAhead 4 (some .int) 2 0 0 cy (kRet (some (.int (nI (cntA I lq a)))) (wc cy S I L R LP)) kF 4 [(0, .ref (ka S 2 0)), (1, .ref a), (2, .int (nI ((lq.take i).countP (fun b => ahdF I b a)))), (3, .int (nI i))] [] (wc cy S I L R LP) 0 0 := by
  intro m
  induction m with
  | zero =>
    intro i hi
    have hi : i = lq.length := by omega
    subst hi
    refine J_iload_n 3 rfl dX3_countAhead_4 ?_
    refine J_aload_n 0 rfl dX3_countAhead_5 ?_
    refine gf_3_20 (n2 _) dX3_countAhead_6 ?_
    refine J_topeq (nI lq.length) hszq ?_
    refine J_icmp_ge 43 (by decide) dX3_countAhead_9 (fun c1 => ?_) (fun c1 => ?_)
    rotate_left
    · exfalso
      have Nc1 : ¬ (lq.length ≤ lq.length) := fun q => c1 ((nI_leI (a := lq.length) (b := lq.length) (by omega) (by omega)).mpr q)
      omega
    have Nc1 : lq.length ≤ lq.length := (nI_leI (a := lq.length) (b := lq.length) (by omega) (by omega)).mp c1
    refine J_iload_n 2 rfl dX3_countAhead_43 ?_
    exact J_ireturn rfl (by first | rfl | assumption | simp [kb_nar]) dX3_countAhead_44 (⟨by rw [List.take_length]; rfl, rfl⟩) (by omega) (by omega)
  | succ m ih =>
    intro i hi
    obtain ⟨b, hb⟩ : ∃ b, lq[i]? = some b := ⟨lq[i]'(by omega), List.getElem?_eq_getElem (by omega)⟩
    have hbL : b ∈ LP := hlq b (List.mem_of_getElem? hb)
    have hRb : R 13 0 i = some b := (hR2 i (by omega)).trans hb
    have hle := cnt_le (p := fun b => ahdF I b a) (l := lq.take i)
    have hle2 : (lq.take i).length ≤ 24 := by rw [List.length_take]; omega
    refine J_iload_n 3 rfl dX3_countAhead_4 ?_
    refine J_aload_n 0 rfl dX3_countAhead_5 ?_
    refine gf_3_20 (n2 _) dX3_countAhead_6 ?_
    refine J_topeq (nI lq.length) hszq ?_
    refine J_icmp_ge 43 (by decide) dX3_countAhead_9 (fun c1 => ?_) (fun c1 => ?_)
    · exfalso
      have Nc1 : lq.length ≤ i := (nI_leI (a := lq.length) (b := i) (by omega) (by omega)).mp c1
      omega
    have Nc1 : ¬ (lq.length ≤ i) := fun q => c1 ((nI_leI (a := lq.length) (b := i) (by omega) (by omega)).mpr q)
    refine J_iload_n 3 rfl dX3_countAhead_12 ?_
    refine J_aload_n 0 rfl dX3_countAhead_13 ?_
    refine gf_3_17 (n2 _) dX3_countAhead_14 ?_
    refine J_alen (v := 24) 5 (n13 _) rfl rfl rfl dX3_countAhead_17 ?_
    refine J_icmp_ge 43 (by decide) dX3_countAhead_18 (fun c2 => ?_) (fun c2 => ?_)
    · exfalso
      have Nc2 : 24 ≤ i := (nI_leI (a := 24) (b := i) (by omega) (by omega)).mp c2
      omega
    have Nc2 : ¬ (24 ≤ i) := fun q => c2 ((nI_leI (a := 24) (b := i) (by omega) (by omega)).mpr q)
    refine J_aload_n 0 rfl dX3_countAhead_21 ?_
    refine gf_3_17 (n2 _) dX3_countAhead_22 ?_
    refine J_iload_n 3 rfl dX3_countAhead_25 ?_
    refine J_aald i 5 (n13 _) rfl rfl (vp_in_nI (by omega) (by decide)) (nI_toNat (by omega)) dX3_countAhead_26 ?_
    refine J_topv (v' := .ref b) (by rw [hRb]; rfl) ?_
    refine J_aload_n 1 rfl dX3_countAhead_27 ?_
    refine cv_3_24 (i := 0) (cells' := 0) (slots' := 0) dX3_countAhead_28 (c_X3_isAhead (by assumption) (by assumption)) ⟨by decide, by decide⟩ rfl rfl (by decide) (by decide) (Nat.le_of_ble_eq_true rfl) (fun _ _ r3 => ?_) (fun _ _ h => h.elim)
    obtain ⟨rfl, rfl⟩ := r3
    refine J_eq (st' := [.int (kb (ahdF I b a))]) rfl rfl rfl ?_
    refine J_if_eq 37 (by decide) dX3_countAhead_31 (fun c4 => ?_) (fun c4 => ?_)
    · skip
      refine J_iinc (v := (nI (i + 1))) (lv' := [(0, .ref (ka S 2 0)), (1, .ref a), (2, .int (nI ((lq.take i).countP (fun b => ahdF I b a)))), (3, .int (nI (i + 1)))]) 3 rfl (by exact nI_add i 1) (by decide) rfl dX3_countAhead_37 ?_
      refine J_goto 4 (by decide) dX3_countAhead_40 ?_
      refine J_eq (lv' := [(0, .ref (ka S 2 0)), (1, .ref a), (2, .int (nI ((lq.take (i + 1)).countP (fun b => ahdF I b a)))), (3, .int (nI (i + 1)))]) rfl (by rw [cnt_s hb]; (try simp only [kb_0, kb_n0] at *); simp [*]) rfl ?_
      exact ih (i + 1) (by omega)
    · skip
      refine J_iinc (v := (nI ((lq.take i).countP (fun b => ahdF I b a) + 1))) (lv' := [(0, .ref (ka S 2 0)), (1, .ref a), (2, .int (nI ((lq.take i).countP (fun b => ahdF I b a) + 1))), (3, .int (nI i))]) 2 rfl (by exact nI_add ((lq.take i).countP (fun b => ahdF I b a)) 1) (by decide) rfl dX3_countAhead_34 ?_
      refine J_iinc (v := (nI (i + 1))) (lv' := [(0, .ref (ka S 2 0)), (1, .ref a), (2, .int (nI ((lq.take i).countP (fun b => ahdF I b a) + 1))), (3, .int (nI (i + 1)))]) 3 rfl (by exact nI_add i 1) (by decide) rfl dX3_countAhead_37 ?_
      refine J_goto 4 (by decide) dX3_countAhead_40 ?_
      refine J_eq (lv' := [(0, .ref (ka S 2 0)), (1, .ref a), (2, .int (nI ((lq.take (i + 1)).countP (fun b => ahdF I b a)))), (3, .int (nI (i + 1)))]) rfl (by rw [cnt_s hb]; (try simp only [kb_0, kb_n0] at *); simp [*]) rfl ?_
      exact ih (i + 1) (by omega)

set_option maxRecDepth 20000 in
set_option maxHeartbeats 1000000 in
theorem c_X3_countAhead {cy : Nat → ClassId} {S : Nat → Nat → Nat} {I : kI} {L : kL} {R : kRf} {LP : List Nat} {lq : List Nat} {a : Nat} (hq : lq.length ≤ 24) (hlq : ∀ x ∈ lq, x ∈ LP) (hszq : I 2 0 2 = nI lq.length) (hR2 : arrL R 13 24 lq) (ha : a ∈ LP) : Con yX3_countAhead cX3_countAhead 4 (some .int) 2 0 0 cy [.ref (ka S 2 0), .ref a] (wc cy S I L R LP) (kRet (some (.int (nI (cntA I lq a)))) (wc cy S I L R LP)) kF := by
  refine Con_of (by decide +kernel) (Nat.le_of_ble_eq_true rfl) ?_
  refine J_eq (lv' := [(0, .ref (ka S 2 0)), (1, .ref a)]) rfl rfl rfl ?_
  refine J_iconst (v := 0) (by decide) dX3_countAhead_0 ?_
  refine J_istore_n (lv' := [(0, .ref (ka S 2 0)), (1, .ref a), (2, .int 0)]) (by decide) rfl dX3_countAhead_1 ?_
  refine J_iconst (v := 0) (by decide) dX3_countAhead_2 ?_
  refine J_istore_n (lv' := [(0, .ref (ka S 2 0)), (1, .ref a), (2, .int 0), (3, .int 0)]) (by decide) rfl dX3_countAhead_3 ?_
  refine J_eq (lv' := [(0, .ref (ka S 2 0)), (1, .ref a), (2, .int (nI ((lq.take 0).countP (fun b => ahdF I b a)))), (3, .int (nI 0))]) rfl rfl rfl ?_
  exact l_X3_countAhead hq hlq hszq hR2 ha lq.length 0 (by omega)
set_option maxRecDepth 20000 in
set_option maxHeartbeats 1000000 in
theorem l_X3_atByCounting {cy : Nat → ClassId} {S : Nat → Nat → Nat} {I : kI} {L : kL} {R : kRf} {LP : List Nat} {lq : List Nat} {r : Int32} (hq : lq.length ≤ 24) (hlq : ∀ x ∈ lq, x ∈ LP) (hszq : I 2 0 2 = nI lq.length) (hR2 : arrL R 13 24 lq) {x : Option Nat} : ∀ (m i : Nat), i + m = lq.length → (lq.drop i).find? (fun b => decide (nI (cntA I lq b) = r)) = x →
    J yX3_atByCounting.cls yX3_atByCounting.name cX3_atByCounting 3 (some (.object "FoghornExchange$RadioCall")) 3 0 0 cy (kRet (some (va_rf x)) (wc cy S I L R LP)) kF 2 [(0, .ref (ka S 2 0)), (1, .int r), (2, .int (nI i))] [] (wc cy S I L R LP) 0 0 := by
  intro m
  induction m with
  | zero =>
    intro i hi hf
    have hi : i = lq.length := by omega
    subst hi
    rw [List.drop_length] at hf
    subst hf
    refine J_iload_n 2 rfl dX3_atByCounting_2 ?_
    refine J_aload_n 0 rfl dX3_atByCounting_3 ?_
    refine gf_3_20 (n2 _) dX3_atByCounting_4 ?_
    refine J_topeq (nI lq.length) hszq ?_
    refine J_icmp_ge 46 (by decide) dX3_atByCounting_7 (fun c1 => ?_) (fun c1 => ?_)
    rotate_left
    · exfalso
      have Nc1 : ¬ (lq.length ≤ lq.length) := fun q => c1 ((nI_leI (a := lq.length) (b := lq.length) (by omega) (by omega)).mpr q)
      omega
    have Nc1 : lq.length ≤ lq.length := (nI_leI (a := lq.length) (b := lq.length) (by omega) (by omega)).mp c1
    refine J_null dX3_atByCounting_46 ?_
    exact J_areturn rfl (by first | exact Or.inl ⟨_, rfl⟩ | exact Or.inr ⟨_, rfl⟩) (by first | exact Or.inl rfl | exact Or.inr ⟨_, rfl⟩ | exact va_rf_or _) dX3_atByCounting_47 (⟨rfl, rfl⟩) (by omega) (by omega)
  | succ m ih =>
    intro i hi hf
    obtain ⟨b, hb⟩ : ∃ b, lq[i]? = some b := ⟨lq[i]'(by omega), List.getElem?_eq_getElem (by omega)⟩
    have hbL : b ∈ LP := hlq b (List.mem_of_getElem? hb)
    have hRb : R 13 0 i = some b := (hR2 i (by omega)).trans hb
    refine J_iload_n 2 rfl dX3_atByCounting_2 ?_
    refine J_aload_n 0 rfl dX3_atByCounting_3 ?_
    refine gf_3_20 (n2 _) dX3_atByCounting_4 ?_
    refine J_topeq (nI lq.length) hszq ?_
    refine J_icmp_ge 46 (by decide) dX3_atByCounting_7 (fun c1 => ?_) (fun c1 => ?_)
    · exfalso
      have Nc1 : lq.length ≤ i := (nI_leI (a := lq.length) (b := i) (by omega) (by omega)).mp c1
      omega
    have Nc1 : ¬ (lq.length ≤ i) := fun q => c1 ((nI_leI (a := lq.length) (b := i) (by omega) (by omega)).mpr q)
    refine J_iload_n 2 rfl dX3_atByCounting_10 ?_
    refine J_aload_n 0 rfl dX3_atByCounting_11 ?_
    refine gf_3_17 (n2 _) dX3_atByCounting_12 ?_
    refine J_alen (v := 24) 5 (n13 _) rfl rfl rfl dX3_atByCounting_15 ?_
    refine J_icmp_ge 46 (by decide) dX3_atByCounting_16 (fun c2 => ?_) (fun c2 => ?_)
    · exfalso
      have Nc2 : 24 ≤ i := (nI_leI (a := 24) (b := i) (by omega) (by omega)).mp c2
      omega
    have Nc2 : ¬ (24 ≤ i) := fun q => c2 ((nI_leI (a := 24) (b := i) (by omega) (by omega)).mpr q)
    refine J_aload_n 0 rfl dX3_atByCounting_19 ?_
    refine J_aload_n 0 rfl dX3_atByCounting_20 ?_
    refine gf_3_17 (n2 _) dX3_atByCounting_21 ?_
    refine J_iload_n 2 rfl dX3_atByCounting_24 ?_
    refine J_aald i 5 (n13 _) rfl rfl (vp_in_nI (by omega) (by decide)) (nI_toNat (by omega)) dX3_atByCounting_25 ?_
    refine J_topv (v' := .ref b) (by rw [hRb]; rfl) ?_
    refine cv_3_32 (cells' := 0) (slots' := 0) dX3_atByCounting_26 (c_X3_countAhead hq hlq hszq hR2 hbL) (n2 _) ⟨by decide, by decide⟩ rfl rfl (by decide) (by decide) (Nat.le_of_ble_eq_true rfl) (fun _ _ r3 => ?_) (fun _ _ h => h.elim)
    obtain ⟨rfl, rfl⟩ := r3
    refine J_eq (st' := [.int (nI (cntA I lq b))]) rfl rfl rfl ?_
    refine J_iload_n 1 rfl dX3_atByCounting_29 ?_
    refine J_icmp_ne 40 (by decide) dX3_atByCounting_30 (fun c4 => ?_) (fun c4 => ?_)
    · skip
      refine J_iinc (v := (nI (i + 1))) (lv' := [(0, .ref (ka S 2 0)), (1, .int r), (2, .int (nI (i + 1)))]) 2 rfl (by exact nI_add i 1) (by decide) rfl dX3_atByCounting_40 ?_
      refine J_goto 2 (by decide) dX3_atByCounting_43 ?_
      refine J_eq (lv' := [(0, .ref (ka S 2 0)), (1, .int r), (2, .int (nI (i + 1)))]) rfl rfl rfl ?_
      exact ih (i + 1) (by omega) (by rw [drop_c hb, List.find?_cons_of_neg (by simp only [decide_eq_true_eq]; assumption)] at hf; exact hf)
    · skip
      refine J_aload_n 0 rfl dX3_atByCounting_33 ?_
      refine gf_3_17 (n2 _) dX3_atByCounting_34 ?_
      refine J_iload_n 2 rfl dX3_atByCounting_37 ?_
      refine J_aald i 5 (n13 _) rfl rfl (vp_in_nI (by omega) (by decide)) (nI_toNat (by omega)) dX3_atByCounting_38 ?_
      refine J_topv (v' := .ref b) (by rw [hRb]; rfl) ?_
      exact J_areturn rfl (by first | exact Or.inl ⟨_, rfl⟩ | exact Or.inr ⟨_, rfl⟩) (by first | exact Or.inl rfl | exact Or.inr ⟨_, rfl⟩ | exact va_rf_or _) dX3_atByCounting_39 (⟨by rw [drop_c hb, List.find?_cons_of_pos (by simp only [decide_eq_true_eq]; assumption)] at hf; rw [← hf]; rfl, rfl⟩) (by omega) (by omega)

set_option maxRecDepth 20000 in
set_option maxHeartbeats 1000000 in
theorem c_X3_atByCounting {cy : Nat → ClassId} {S : Nat → Nat → Nat} {I : kI} {L : kL} {R : kRf} {LP : List Nat} {lq : List Nat} {r : Int32} (hq : lq.length ≤ 24) (hlq : ∀ x ∈ lq, x ∈ LP) (hszq : I 2 0 2 = nI lq.length) (hR2 : arrL R 13 24 lq) : Con yX3_atByCounting cX3_atByCounting 3 (some (.object "FoghornExchange$RadioCall")) 3 0 0 cy [.ref (ka S 2 0), .int r] (wc cy S I L R LP) (kRet (some (va_rf (lq.find? (fun b => decide (nI (cntA I lq b) = r))))) (wc cy S I L R LP)) kF := by
  refine Con_of (by decide +kernel) (Nat.le_of_ble_eq_true rfl) ?_
  refine J_eq (lv' := [(0, .ref (ka S 2 0)), (1, .int r)]) rfl rfl rfl ?_
  refine J_iconst (v := 0) (by decide) dX3_atByCounting_0 ?_
  refine J_istore_n (lv' := [(0, .ref (ka S 2 0)), (1, .int r), (2, .int 0)]) (by decide) rfl dX3_atByCounting_1 ?_
  refine J_eq (lv' := [(0, .ref (ka S 2 0)), (1, .int r), (2, .int (nI 0))]) rfl rfl rfl ?_
  exact l_X3_atByCounting hq hlq hszq hR2 lq.length 0 (by omega) rfl
