/-! Line: takeOut, join, leave and the reads -/
/-- an array of calls holds a list -/
def arrL (R : kRf) (k n : Nat) (l : List Nat) : Prop := ∀ j, j < n → R k 0 j = l[j]?
theorem er_lt {l : List Nat} {a i : Nat} (h : a ∉ l.take (i + 1)) : (l.erase a)[i]? = l[i]? := by
  induction l generalizing i with
  | nil => rfl
  | cons b l ih =>
    have hb : ¬ b = a := fun e => h (by rw [e]; simp)
    rw [List.erase_cons_tail (by simpa using hb)]
    cases i with
    | zero => rfl
    | succ i =>
      simp only [List.getElem?_cons_succ]
      exact ih (fun hm => h (by simp [hm]))
theorem er_ge {l : List Nat} {a i : Nat} (h : a ∈ l.take (i + 1)) : (l.erase a)[i]? = l[i + 1]? := by
  induction l generalizing i with
  | nil => simp at h
  | cons b l ih =>
    by_cases hb : b = a
    · subst hb
      rw [List.erase_cons_head]
      simp
    · rw [List.erase_cons_tail (by simpa using hb)]
      cases i with
      | zero => simp at h; exact absurd h.symm hb
      | succ i =>
        simp only [List.getElem?_cons_succ]
        refine ih ?_
        simp only [List.take_succ_cons, List.mem_cons] at h
        rcases h with h | h
        · exact absurd h.symm hb
        · exact h
theorem tk_s {l : List Nat} {a i : Nat} : a ∈ l.take (i + 1) ↔ a ∈ l.take i ∨ l[i]? = some a := by
  rw [List.take_succ]
  simp [Option.mem_toList, eq_comm]
theorem arrL_LP {R : kRf} {k n : Nat} {l LP : List Nat} (h : arrL R k n l) (hl : ∀ x ∈ l, x ∈ LP) : inLP R k n LP := fun j a hj ha => hl a (List.mem_of_getElem? ((h j hj).symm.trans ha))

set_option maxRecDepth 20000 in
set_option maxHeartbeats 1000000 in
theorem l_X3_takeOut_12 {cy : Nat → ClassId} {S : Nat → Nat → Nat} {I : kI} {L : kL} {R0 : kRf} {LP : List Nat} {l : List Nat} {a : Nat} (hl : l.length ≤ 24) (hLP : ∀ x ∈ l, x ∈ LP) (ha : a ∈ LP) : ∀ (m i : Nat) (R : kRf), i + m = 24 → (∀ j, j < 24 → R 12 0 j = if j < i then (l.erase a)[j]? else l[j]?) → (∀ k' i', (k', i') ≠ (12, 0) → R k' i' = R0 k' i') →
    J yX3_takeOut.cls yX3_takeOut.name cX3_takeOut 4 (some .boolean) 0 0 0 cy (fun r w' => ∃ R', r = some (.int (kb (decide (a ∈ l)))) ∧ w' = wc cy S I L R' LP ∧ arrL R' 12 24 (l.erase a) ∧ ∀ k' i', (k', i') ≠ (12, 0) → R' k' i' = R0 k' i') kF 4 [(0, .ref (ka S 12 0)), (1, .ref a), (2, .int (kb (decide (a ∈ l.take i)))), (3, .int (nI i))] [] (wc cy S I L R LP) 0 0 := by
  intro m
  induction m with
  | zero =>
    intro i R hi hR ho
    have hi : i = 24 := by omega
    subst hi
    have htk : l.take 24 = l := List.take_of_length_le hl
    rw [htk]
    refine J_eq (lv' := [(0, .ref (ka S 12 0)), (1, .ref a), (2, .int (kb (decide (a ∈ l)))), (3, .int 24)]) rfl rfl rfl ?_
    refine J_iload_n 3 rfl dX3_takeOut_4 ?_
    refine J_aload_n 0 rfl dX3_takeOut_5 ?_
    refine J_alen (v := 24) 5 (n12 _) rfl rfl rfl dX3_takeOut_6 ?_
    refine J_icmp_ge 49 (by decide) dX3_takeOut_7 (fun c1 => ?_) (fun c1 => ?_)
    rotate_left
    · exact absurd (by decide) c1
    refine J_iload_n 2 rfl dX3_takeOut_49 ?_
    exact J_ireturn rfl (by first | rfl | assumption | simp [kb_nar]) dX3_takeOut_50 (⟨R, rfl, rfl, fun j hj => by have h9 := hR j hj; rw [if_pos hj] at h9; exact h9, ho⟩) (by omega) (by omega)
  | succ m ih =>
    intro i R hi hR ho
    have hlt : i < 24 := by omega
    have hRi := hR i hlt
    rw [if_neg (Nat.lt_irrefl i)] at hRi
    refine J_iload_n 3 rfl dX3_takeOut_4 ?_
    refine J_aload_n 0 rfl dX3_takeOut_5 ?_
    refine J_alen (v := 24) 5 (n12 _) rfl rfl rfl dX3_takeOut_6 ?_
    refine J_icmp_ge 49 (by decide) dX3_takeOut_7 (fun c1 => absurd c1 (nI_ge hlt (by decide))) (fun _ => ?_)
    refine J_aload_n 0 rfl dX3_takeOut_10 ?_
    refine J_iload_n 3 rfl dX3_takeOut_11 ?_
    refine J_aald i 5 (n12 _) rfl rfl (vp_in_nI hlt (by decide)) (nI_toNat (by omega)) dX3_takeOut_12 ?_
    refine J_topv (v' := va_rf l[i]?) (by rw [hRi]) ?_
    refine J_aload_n 1 rfl dX3_takeOut_13 ?_
    have hcont : ∀ b : Bool, b = decide (a ∈ l.take (i + 1)) → J yX3_takeOut.cls yX3_takeOut.name cX3_takeOut 4 (some .boolean) 0 0 0 cy (fun r w' => ∃ R', r = some (.int (kb (decide (a ∈ l)))) ∧ w' = wc cy S I L R' LP ∧ arrL R' 12 24 (l.erase a) ∧ ∀ k' i', (k', i') ≠ (12, 0) → R' k' i' = R0 k' i') kF 19 [(0, .ref (ka S 12 0)), (1, .ref a), (2, .int (kb b)), (3, .int (nI i))] [] (wc cy S I L R LP) 0 0 := by
      intro b hb
      refine J_iload_n 2 rfl dX3_takeOut_19 ?_
      refine J_if_eq 43 (by decide) dX3_takeOut_20 (fun c3 => ?_) (fun c3 => ?_)
      · have hna : a ∉ l.take (i + 1) := by rw [kb_0] at c3; rw [hb] at c3; simpa using c3
        refine J_iinc (v := nI (i + 1)) (lv' := [(0, .ref (ka S 12 0)), (1, .ref a), (2, .int (kb b)), (3, .int (nI (i + 1)))]) 3 rfl (by exact nI_1 i) (by decide) rfl dX3_takeOut_43 ?_
        refine J_goto 4 (by decide) dX3_takeOut_46 ?_
        rw [hb]
        refine ih (i + 1) R (by omega) (fun j hj => ?_) ho
        have h9 := hR j hj
        by_cases h1 : j < i
        · rw [if_pos h1] at h9; rw [if_pos (by omega)]; exact h9
        · rw [if_neg h1] at h9
          by_cases h2 : j < i + 1
          · have e : j = i := by omega
            subst e
            rw [if_pos h2, er_lt hna]; exact h9
          · rw [if_neg h2]; exact h9
      · have hya : a ∈ l.take (i + 1) := by rw [kb_n0] at c3; rw [hb] at c3; simpa using c3
        refine J_aload_n 0 rfl dX3_takeOut_23 ?_
        refine J_iload_n 3 rfl dX3_takeOut_24 ?_
        refine J_iload_n 3 rfl dX3_takeOut_25 ?_
        refine J_iconst (v := 1) (by decide) dX3_takeOut_26 ?_
        refine J_iadd dX3_takeOut_27 ?_
        refine J_topeq (nI (i + 1)) (nI_1 i) ?_
        refine J_aload_n 0 rfl dX3_takeOut_28 ?_
        refine J_alen (v := 24) 5 (n12 _) rfl rfl rfl dX3_takeOut_29 ?_
        have hst : ∀ r : Option Nat, r = l[i + 1]? → J yX3_takeOut.cls yX3_takeOut.name cX3_takeOut 4 (some .boolean) 0 0 0 cy (fun r w' => ∃ R', r = some (.int (kb (decide (a ∈ l)))) ∧ w' = wc cy S I L R' LP ∧ arrL R' 12 24 (l.erase a) ∧ ∀ k' i', (k', i') ≠ (12, 0) → R' k' i' = R0 k' i') kF 42 [(0, .ref (ka S 12 0)), (1, .ref a), (2, .int (kb b)), (3, .int (nI i))] [va_rf r, .int (nI i), .ref (ka S 12 0)] (wc cy S I L R LP) 0 0 := by
          intro r hr
          have hnx : ∀ R2 : kRf, R2 = ku R 12 0 i r → J yX3_takeOut.cls yX3_takeOut.name cX3_takeOut 4 (some .boolean) 0 0 0 cy (fun r w' => ∃ R', r = some (.int (kb (decide (a ∈ l)))) ∧ w' = wc cy S I L R' LP ∧ arrL R' 12 24 (l.erase a) ∧ ∀ k' i', (k', i') ≠ (12, 0) → R' k' i' = R0 k' i') kF 43 [(0, .ref (ka S 12 0)), (1, .ref a), (2, .int (kb b)), (3, .int (nI i))] [] (wc cy S I L R2 LP) 0 0 := by
            intro R2 hR2
            refine J_iinc (v := nI (i + 1)) (lv' := [(0, .ref (ka S 12 0)), (1, .ref a), (2, .int (kb b)), (3, .int (nI (i + 1)))]) 3 rfl (by exact nI_1 i) (by decide) rfl dX3_takeOut_43 ?_
            refine J_goto 4 (by decide) dX3_takeOut_46 ?_
            rw [hb]
            refine ih (i + 1) R2 (by omega) (fun j hj => ?_) (fun k' i' h => by rw [hR2, ku_row _ _ h]; exact ho k' i' h)
            rw [hR2]
            have h9 := hR j hj
            by_cases e : j = i
            · subst e; rw [ku_eq, if_pos (by omega), er_ge hya]; exact hr
            · rw [ku_f _ _ _ _ e]
              by_cases h1 : j < i
              · rw [if_pos h1] at h9; rw [if_pos (by omega)]; exact h9
              · rw [if_neg h1] at h9; rw [if_neg (by omega)]; exact h9
          rcases opt_split r with h | ⟨x, h⟩
          · subst h
            refine J_topv (v' := .null) rfl ?_
            exact J_aastN (R' := ku R 12 0 i none) i 5 (n12 _) rfl rfl (vp_in_nI hlt (by decide)) (nI_toNat (by omega)) (by rw [ku_own]; rfl) (fun k' i' h => ⟨rfl, rfl, ku_row _ _ h⟩) dX3_takeOut_42 (hnx _ rfl)
          · subst h
            have hx : x ∈ LP := hLP x (List.mem_of_getElem? hr.symm)
            refine J_topv (v' := .ref x) rfl ?_
            exact J_aastR (R' := ku R 12 0 i (some x)) i 5 (n12 _) rfl rfl (n20 hx) (vp_in_nI hlt (by decide)) (nI_toNat (by omega)) (by rw [ku_own]; rfl) (fun k' i' h => ⟨rfl, rfl, ku_row _ _ h⟩) dX3_takeOut_42 (hnx _ rfl)
        refine J_icmp_ge 41 (by decide) dX3_takeOut_30 (fun c4 => ?_) (fun c4 => ?_)
        · refine J_null dX3_takeOut_41 ?_
          have h24 : ¬ i + 1 < 24 := fun h => nI_ge h (by decide) c4
          refine J_topv (v' := va_rf none) rfl ?_
          exact hst none (by rw [List.getElem?_eq_none (by omega)])
        · have h24 : i + 1 < 24 := by
            rcases Nat.lt_or_ge (i + 1) 24 with h | h
            · exact h
            · exact absurd (nI_le (a := 24) h (by omega)) c4
          refine J_aload_n 0 rfl dX3_takeOut_33 ?_
          refine J_iload_n 3 rfl dX3_takeOut_34 ?_
          refine J_iconst (v := 1) (by decide) dX3_takeOut_35 ?_
          refine J_iadd dX3_takeOut_36 ?_
          refine J_topeq (nI (i + 1)) (nI_1 i) ?_
          refine J_aald (i + 1) 5 (n12 _) rfl rfl (vp_in_nI h24 (by decide)) (nI_toNat (by omega)) dX3_takeOut_37 ?_
          have h9 := hR (i + 1) h24
          rw [if_neg (by omega)] at h9
          refine J_topv (v' := va_rf l[i + 1]?) (by rw [h9]) ?_
          refine J_goto 42 (by decide) dX3_takeOut_38 ?_
          exact hst _ rfl
    refine J_acmp_ne l[i]? (some a) 19 (by decide) dX3_takeOut_14 (fun c2 => ?_) (fun c2 => ?_)
    · refine hcont (decide (a ∈ l.take i)) ?_
      rw [decide_eq_decide, tk_s]; simp [c2]
    · refine J_iconst (v := 1) (by decide) dX3_takeOut_17 ?_
      refine J_istore_n (lv' := [(0, .ref (ka S 12 0)), (1, .ref a), (2, .int (kb true)), (3, .int (nI i))]) (by decide) rfl dX3_takeOut_18 ?_
      exact hcont true (by simp [tk_s, c2])
set_option maxRecDepth 20000 in
set_option maxHeartbeats 1000000 in
theorem c_X3_takeOut_12 {cy : Nat → ClassId} {S : Nat → Nat → Nat} {I : kI} {L : kL} {R : kRf} {LP : List Nat} {l : List Nat} {a : Nat} (hl : l.length ≤ 24) (hLP : ∀ x ∈ l, x ∈ LP) (ha : a ∈ LP) (hR : arrL R 12 24 l) : Con yX3_takeOut cX3_takeOut 4 (some .boolean) 0 0 0 cy [.ref (ka S 12 0), .ref a] (wc cy S I L R LP) (fun r w' => ∃ R', r = some (.int (kb (decide (a ∈ l)))) ∧ w' = wc cy S I L R' LP ∧ arrL R' 12 24 (l.erase a) ∧ ∀ k' i', (k', i') ≠ (12, 0) → R' k' i' = R k' i') kF := by
  refine Con_of (by decide +kernel) (Nat.le_of_ble_eq_true rfl) ?_
  refine J_eq (lv' := [(0, .ref (ka S 12 0)), (1, .ref a)]) rfl rfl rfl ?_
  refine J_iconst (v := 0) (by decide) dX3_takeOut_0 ?_
  refine J_istore_n (lv' := [(0, .ref (ka S 12 0)), (1, .ref a), (2, .int 0)]) (by decide) rfl dX3_takeOut_1 ?_
  refine J_iconst (v := 0) (by decide) dX3_takeOut_2 ?_
  refine J_istore_n (lv' := [(0, .ref (ka S 12 0)), (1, .ref a), (2, .int 0), (3, .int 0)]) (by decide) rfl dX3_takeOut_3 ?_
  refine J_eq (lv' := [(0, .ref (ka S 12 0)), (1, .ref a), (2, .int (kb (decide (a ∈ l.take 0)))), (3, .int (nI 0))]) rfl (by simp [kb, nI_0]) rfl ?_
  exact l_X3_takeOut_12 hl hLP ha 24 0 R rfl (fun j hj => by rw [if_neg (by omega)]; exact hR j hj) (fun _ _ _ => rfl)
set_option maxRecDepth 20000 in
set_option maxHeartbeats 1000000 in
theorem l_X3_takeOut_13 {cy : Nat → ClassId} {S : Nat → Nat → Nat} {I : kI} {L : kL} {R0 : kRf} {LP : List Nat} {l : List Nat} {a : Nat} (hl : l.length ≤ 24) (hLP : ∀ x ∈ l, x ∈ LP) (ha : a ∈ LP) : ∀ (m i : Nat) (R : kRf), i + m = 24 → (∀ j, j < 24 → R 13 0 j = if j < i then (l.erase a)[j]? else l[j]?) → (∀ k' i', (k', i') ≠ (13, 0) → R k' i' = R0 k' i') →
    J yX3_takeOut.cls yX3_takeOut.name cX3_takeOut 4 (some .boolean) 0 0 0 cy (fun r w' => ∃ R', r = some (.int (kb (decide (a ∈ l)))) ∧ w' = wc cy S I L R' LP ∧ arrL R' 13 24 (l.erase a) ∧ ∀ k' i', (k', i') ≠ (13, 0) → R' k' i' = R0 k' i') kF 4 [(0, .ref (ka S 13 0)), (1, .ref a), (2, .int (kb (decide (a ∈ l.take i)))), (3, .int (nI i))] [] (wc cy S I L R LP) 0 0 := by
  intro m
  induction m with
  | zero =>
    intro i R hi hR ho
    have hi : i = 24 := by omega
    subst hi
    have htk : l.take 24 = l := List.take_of_length_le hl
    rw [htk]
    refine J_eq (lv' := [(0, .ref (ka S 13 0)), (1, .ref a), (2, .int (kb (decide (a ∈ l)))), (3, .int 24)]) rfl rfl rfl ?_
    refine J_iload_n 3 rfl dX3_takeOut_4 ?_
    refine J_aload_n 0 rfl dX3_takeOut_5 ?_
    refine J_alen (v := 24) 5 (n13 _) rfl rfl rfl dX3_takeOut_6 ?_
    refine J_icmp_ge 49 (by decide) dX3_takeOut_7 (fun c1 => ?_) (fun c1 => ?_)
    rotate_left
    · exact absurd (by decide) c1
    refine J_iload_n 2 rfl dX3_takeOut_49 ?_
    exact J_ireturn rfl (by first | rfl | assumption | simp [kb_nar]) dX3_takeOut_50 (⟨R, rfl, rfl, fun j hj => by have h9 := hR j hj; rw [if_pos hj] at h9; exact h9, ho⟩) (by omega) (by omega)
  | succ m ih =>
    intro i R hi hR ho
    have hlt : i < 24 := by omega
    have hRi := hR i hlt
    rw [if_neg (Nat.lt_irrefl i)] at hRi
    refine J_iload_n 3 rfl dX3_takeOut_4 ?_
    refine J_aload_n 0 rfl dX3_takeOut_5 ?_
    refine J_alen (v := 24) 5 (n13 _) rfl rfl rfl dX3_takeOut_6 ?_
    refine J_icmp_ge 49 (by decide) dX3_takeOut_7 (fun c1 => absurd c1 (nI_ge hlt (by decide))) (fun _ => ?_)
    refine J_aload_n 0 rfl dX3_takeOut_10 ?_
    refine J_iload_n 3 rfl dX3_takeOut_11 ?_
    refine J_aald i 5 (n13 _) rfl rfl (vp_in_nI hlt (by decide)) (nI_toNat (by omega)) dX3_takeOut_12 ?_
    refine J_topv (v' := va_rf l[i]?) (by rw [hRi]) ?_
    refine J_aload_n 1 rfl dX3_takeOut_13 ?_
    have hcont : ∀ b : Bool, b = decide (a ∈ l.take (i + 1)) → J yX3_takeOut.cls yX3_takeOut.name cX3_takeOut 4 (some .boolean) 0 0 0 cy (fun r w' => ∃ R', r = some (.int (kb (decide (a ∈ l)))) ∧ w' = wc cy S I L R' LP ∧ arrL R' 13 24 (l.erase a) ∧ ∀ k' i', (k', i') ≠ (13, 0) → R' k' i' = R0 k' i') kF 19 [(0, .ref (ka S 13 0)), (1, .ref a), (2, .int (kb b)), (3, .int (nI i))] [] (wc cy S I L R LP) 0 0 := by
      intro b hb
      refine J_iload_n 2 rfl dX3_takeOut_19 ?_
      refine J_if_eq 43 (by decide) dX3_takeOut_20 (fun c3 => ?_) (fun c3 => ?_)
      · have hna : a ∉ l.take (i + 1) := by rw [kb_0] at c3; rw [hb] at c3; simpa using c3
        refine J_iinc (v := nI (i + 1)) (lv' := [(0, .ref (ka S 13 0)), (1, .ref a), (2, .int (kb b)), (3, .int (nI (i + 1)))]) 3 rfl (by exact nI_1 i) (by decide) rfl dX3_takeOut_43 ?_
        refine J_goto 4 (by decide) dX3_takeOut_46 ?_
        rw [hb]
        refine ih (i + 1) R (by omega) (fun j hj => ?_) ho
        have h9 := hR j hj
        by_cases h1 : j < i
        · rw [if_pos h1] at h9; rw [if_pos (by omega)]; exact h9
        · rw [if_neg h1] at h9
          by_cases h2 : j < i + 1
          · have e : j = i := by omega
            subst e
            rw [if_pos h2, er_lt hna]; exact h9
          · rw [if_neg h2]; exact h9
      · have hya : a ∈ l.take (i + 1) := by rw [kb_n0] at c3; rw [hb] at c3; simpa using c3
        refine J_aload_n 0 rfl dX3_takeOut_23 ?_
        refine J_iload_n 3 rfl dX3_takeOut_24 ?_
        refine J_iload_n 3 rfl dX3_takeOut_25 ?_
        refine J_iconst (v := 1) (by decide) dX3_takeOut_26 ?_
        refine J_iadd dX3_takeOut_27 ?_
        refine J_topeq (nI (i + 1)) (nI_1 i) ?_
        refine J_aload_n 0 rfl dX3_takeOut_28 ?_
        refine J_alen (v := 24) 5 (n13 _) rfl rfl rfl dX3_takeOut_29 ?_
        have hst : ∀ r : Option Nat, r = l[i + 1]? → J yX3_takeOut.cls yX3_takeOut.name cX3_takeOut 4 (some .boolean) 0 0 0 cy (fun r w' => ∃ R', r = some (.int (kb (decide (a ∈ l)))) ∧ w' = wc cy S I L R' LP ∧ arrL R' 13 24 (l.erase a) ∧ ∀ k' i', (k', i') ≠ (13, 0) → R' k' i' = R0 k' i') kF 42 [(0, .ref (ka S 13 0)), (1, .ref a), (2, .int (kb b)), (3, .int (nI i))] [va_rf r, .int (nI i), .ref (ka S 13 0)] (wc cy S I L R LP) 0 0 := by
          intro r hr
          have hnx : ∀ R2 : kRf, R2 = ku R 13 0 i r → J yX3_takeOut.cls yX3_takeOut.name cX3_takeOut 4 (some .boolean) 0 0 0 cy (fun r w' => ∃ R', r = some (.int (kb (decide (a ∈ l)))) ∧ w' = wc cy S I L R' LP ∧ arrL R' 13 24 (l.erase a) ∧ ∀ k' i', (k', i') ≠ (13, 0) → R' k' i' = R0 k' i') kF 43 [(0, .ref (ka S 13 0)), (1, .ref a), (2, .int (kb b)), (3, .int (nI i))] [] (wc cy S I L R2 LP) 0 0 := by
            intro R2 hR2
            refine J_iinc (v := nI (i + 1)) (lv' := [(0, .ref (ka S 13 0)), (1, .ref a), (2, .int (kb b)), (3, .int (nI (i + 1)))]) 3 rfl (by exact nI_1 i) (by decide) rfl dX3_takeOut_43 ?_
            refine J_goto 4 (by decide) dX3_takeOut_46 ?_
            rw [hb]
            refine ih (i + 1) R2 (by omega) (fun j hj => ?_) (fun k' i' h => by rw [hR2, ku_row _ _ h]; exact ho k' i' h)
            rw [hR2]
            have h9 := hR j hj
            by_cases e : j = i
            · subst e; rw [ku_eq, if_pos (by omega), er_ge hya]; exact hr
            · rw [ku_f _ _ _ _ e]
              by_cases h1 : j < i
              · rw [if_pos h1] at h9; rw [if_pos (by omega)]; exact h9
              · rw [if_neg h1] at h9; rw [if_neg (by omega)]; exact h9
          rcases opt_split r with h | ⟨x, h⟩
          · subst h
            refine J_topv (v' := .null) rfl ?_
            exact J_aastN (R' := ku R 13 0 i none) i 5 (n13 _) rfl rfl (vp_in_nI hlt (by decide)) (nI_toNat (by omega)) (by rw [ku_own]; rfl) (fun k' i' h => ⟨rfl, rfl, ku_row _ _ h⟩) dX3_takeOut_42 (hnx _ rfl)
          · subst h
            have hx : x ∈ LP := hLP x (List.mem_of_getElem? hr.symm)
            refine J_topv (v' := .ref x) rfl ?_
            exact J_aastR (R' := ku R 13 0 i (some x)) i 5 (n13 _) rfl rfl (n20 hx) (vp_in_nI hlt (by decide)) (nI_toNat (by omega)) (by rw [ku_own]; rfl) (fun k' i' h => ⟨rfl, rfl, ku_row _ _ h⟩) dX3_takeOut_42 (hnx _ rfl)
        refine J_icmp_ge 41 (by decide) dX3_takeOut_30 (fun c4 => ?_) (fun c4 => ?_)
        · refine J_null dX3_takeOut_41 ?_
          have h24 : ¬ i + 1 < 24 := fun h => nI_ge h (by decide) c4
          refine J_topv (v' := va_rf none) rfl ?_
          exact hst none (by rw [List.getElem?_eq_none (by omega)])
        · have h24 : i + 1 < 24 := by
            rcases Nat.lt_or_ge (i + 1) 24 with h | h
            · exact h
            · exact absurd (nI_le (a := 24) h (by omega)) c4
          refine J_aload_n 0 rfl dX3_takeOut_33 ?_
          refine J_iload_n 3 rfl dX3_takeOut_34 ?_
          refine J_iconst (v := 1) (by decide) dX3_takeOut_35 ?_
          refine J_iadd dX3_takeOut_36 ?_
          refine J_topeq (nI (i + 1)) (nI_1 i) ?_
          refine J_aald (i + 1) 5 (n13 _) rfl rfl (vp_in_nI h24 (by decide)) (nI_toNat (by omega)) dX3_takeOut_37 ?_
          have h9 := hR (i + 1) h24
          rw [if_neg (by omega)] at h9
          refine J_topv (v' := va_rf l[i + 1]?) (by rw [h9]) ?_
          refine J_goto 42 (by decide) dX3_takeOut_38 ?_
          exact hst _ rfl
    refine J_acmp_ne l[i]? (some a) 19 (by decide) dX3_takeOut_14 (fun c2 => ?_) (fun c2 => ?_)
    · refine hcont (decide (a ∈ l.take i)) ?_
      rw [decide_eq_decide, tk_s]; simp [c2]
    · refine J_iconst (v := 1) (by decide) dX3_takeOut_17 ?_
      refine J_istore_n (lv' := [(0, .ref (ka S 13 0)), (1, .ref a), (2, .int (kb true)), (3, .int (nI i))]) (by decide) rfl dX3_takeOut_18 ?_
      exact hcont true (by simp [tk_s, c2])
set_option maxRecDepth 20000 in
set_option maxHeartbeats 1000000 in
theorem c_X3_takeOut_13 {cy : Nat → ClassId} {S : Nat → Nat → Nat} {I : kI} {L : kL} {R : kRf} {LP : List Nat} {l : List Nat} {a : Nat} (hl : l.length ≤ 24) (hLP : ∀ x ∈ l, x ∈ LP) (ha : a ∈ LP) (hR : arrL R 13 24 l) : Con yX3_takeOut cX3_takeOut 4 (some .boolean) 0 0 0 cy [.ref (ka S 13 0), .ref a] (wc cy S I L R LP) (fun r w' => ∃ R', r = some (.int (kb (decide (a ∈ l)))) ∧ w' = wc cy S I L R' LP ∧ arrL R' 13 24 (l.erase a) ∧ ∀ k' i', (k', i') ≠ (13, 0) → R' k' i' = R k' i') kF := by
  refine Con_of (by decide +kernel) (Nat.le_of_ble_eq_true rfl) ?_
  refine J_eq (lv' := [(0, .ref (ka S 13 0)), (1, .ref a)]) rfl rfl rfl ?_
  refine J_iconst (v := 0) (by decide) dX3_takeOut_0 ?_
  refine J_istore_n (lv' := [(0, .ref (ka S 13 0)), (1, .ref a), (2, .int 0)]) (by decide) rfl dX3_takeOut_1 ?_
  refine J_iconst (v := 0) (by decide) dX3_takeOut_2 ?_
  refine J_istore_n (lv' := [(0, .ref (ka S 13 0)), (1, .ref a), (2, .int 0), (3, .int 0)]) (by decide) rfl dX3_takeOut_3 ?_
  refine J_eq (lv' := [(0, .ref (ka S 13 0)), (1, .ref a), (2, .int (kb (decide (a ∈ l.take 0)))), (3, .int (nI 0))]) rfl (by simp [kb, nI_0]) rfl ?_
  exact l_X3_takeOut_13 hl hLP ha 24 0 R rfl (fun j hj => by rw [if_neg (by omega)]; exact hR j hj) (fun _ _ _ => rfl)
