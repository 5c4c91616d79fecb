/-! Line.join and what reads the line -/

set_option maxRecDepth 20000 in
theorem c_X3_isAhead {cy : Nat → ClassId} {S : Nat → Nat → Nat} {I : kI} {L : kL} {R : kRf} {LP : List Nat} {a b : Nat} (ha : a ∈ LP) (hb : b ∈ LP) : Con yX3_isAhead cX3_isAhead 2 (some .boolean) 1 0 0 cy [.ref a, .ref b] (wc cy S I L R LP) (kRet (some (.int (kb (ahdF I a b)))) (wc cy S I L R LP)) kF := by
  refine Con_of (by decide +kernel) (Nat.le_of_ble_eq_true rfl) ?_
  refine J_eq (lv' := [(0, .ref a), (1, .ref b)]) rfl rfl rfl ?_
  refine J_aload_n 0 rfl dX3_isAhead_0 ?_
  refine J_ifnull dX3_isAhead_1 ?_
  refine J_aload_n 1 rfl dX3_isAhead_4 ?_
  refine J_ifnull dX3_isAhead_5 ?_
  refine J_aload_n 0 rfl dX3_isAhead_8 ?_
  refine J_aload_n 1 rfl dX3_isAhead_9 ?_
  refine cv_3_36 (cells' := 0) (slots' := 0) dX3_isAhead_10 (c_X5_isAheadOf (by assumption) (by assumption)) (n20 (by assumption)) ⟨by decide, by decide⟩ rfl rfl (by decide) (by decide) (Nat.le_of_ble_eq_true rfl) (fun _ _ r1 => ?_) (fun _ _ h => h.elim)
  obtain ⟨rfl, rfl⟩ := r1
  refine J_eq (st' := [.int (kb (ahdF I a b))]) rfl rfl rfl ?_
  refine J_if_eq 20 (by decide) dX3_isAhead_13 (fun c2 => ?_) (fun c2 => ?_)
  · skip
    refine J_iconst (v := 0) (by decide) dX3_isAhead_20 ?_
    exact J_ireturn rfl (by first | rfl | assumption | simp [kb_nar]) dX3_isAhead_21 (⟨by (try simp only [kb_0, kb_n0] at *); simp [kb, *], rfl⟩) (by omega) (by omega)
  · skip
    refine J_iconst (v := 1) (by decide) dX3_isAhead_16 ?_
    refine J_goto 21 (by decide) dX3_isAhead_17 ?_
    exact J_ireturn rfl (by first | rfl | assumption | simp [kb_nar]) dX3_isAhead_21 (⟨by (try simp only [kb_0, kb_n0] at *); simp [kb, *], rfl⟩) (by omega) (by omega)

set_option maxRecDepth 20000 in
set_option maxHeartbeats 1000000 in
theorem l_X3_join {cy : Nat → ClassId} {S : Nat → Nat → Nat} {I : kI} {L : kL} {R0 : kRf} {LP : List Nat} {lo lq : List Nat} {a : Nat} (hn : lo.length < 24) (hlo : ∀ x ∈ lo, x ∈ LP) (ha : a ∈ LP) (hsz : I 2 0 2 = nI lo.length) : ∀ (k : Nat) (R : kRf), k ≤ lo.length → (∀ j, j < 24 → j < k → R 12 0 j = lo[j]?) → (∀ j, j < 24 → k < j → R 12 0 j = lo[j - 1]?) → arrL R 13 24 (lq ++ [a]) → (∀ j b, k ≤ j → lo[j]? = some b → ahdF I a b = true) → (∀ k' i', (k', i') ≠ (12, 0) → (k', i') ≠ (13, 0) → R k' i' = R0 k' i') →
    J yX3_join.cls yX3_join.name cX3_join 3 none 2 0 0 cy (fun r w' => ∃ (R' : kRf) (k : Nat), r = none ∧ w' = wc cy S (ku I 2 0 2 (nI (lo.length + 1))) L R' LP ∧ k ≤ lo.length ∧ arrL R' 12 24 (lo.insertIdx k a) ∧ arrL R' 13 24 (lq ++ [a]) ∧ (∀ j b, k ≤ j → lo[j]? = some b → ahdF I a b = true) ∧ (∀ b, 1 ≤ k → lo[k - 1]? = some b → ahdF I a b = false) ∧ ∀ k' i', (k', i') ≠ (12, 0) → (k', i') ≠ (13, 0) → R' k' i' = R0 k' i') kF 40 [(0, .ref (ka S 2 0)), (1, .ref a), (2, .int (nI k))] [] (wc cy S I L R LP) 0 0 := by
  intro k
  induction k with
  | zero =>
    intro R hk hlow hhigh h13 hah ho
    refine J_iload_n 2 rfl dX3_join_40 ?_
    refine J_if_le 79 (by decide) dX3_join_41 (fun c1 => ?_) (fun c1 => ?_)
    rotate_left
    · exfalso
      have Nc1 : ¬ (0 ≤ 0) := fun q => c1 ((nI_leI (a := 0) (b := 0) (by omega) (by omega)).mpr q)
      omega
    have Nc1 : 0 ≤ 0 := (nI_leI (a := 0) (b := 0) (by omega) (by omega)).mp c1
    have hins : arrL (ku R 12 0 0 (some a)) 12 24 (lo.insertIdx 0 a) := by
      intro j hj
      rw [List.getElem?_insertIdx]
      by_cases e : j = 0
      · subst e; rw [ku_eq, if_neg (by omega), if_pos rfl, if_pos hk]
      · rw [ku_f _ _ _ _ e]
        by_cases e2 : j < 0
        · rw [if_pos e2]; exact hlow j hj e2
        · rw [if_neg e2, if_neg e]; exact hhigh j hj (by omega)
    refine J_aload_n 0 rfl dX3_join_79 ?_
    refine gf_3_11 (n2 _) dX3_join_80 ?_
    refine J_iload_n 2 rfl dX3_join_83 ?_
    refine J_aload_n 1 rfl dX3_join_84 ?_
    refine J_aastR (R' := ku R 12 0 0 (some a)) 0 5 (n12 _) rfl rfl (n20 (by assumption)) (vp_in_nI (by omega) (by decide)) (nI_toNat (by omega)) (by rw [ku_own]; rfl) (fun k' i' h => ⟨rfl, rfl, ku_row _ _ h⟩) dX3_join_85 ?_
    refine J_aload_n 0 rfl dX3_join_86 ?_
    refine J_dup rfl dX3_join_87 ?_
    refine gf_3_20 (n2 _) dX3_join_88 ?_
    refine J_iconst (v := 1) (by decide) dX3_join_91 ?_
    refine J_iadd dX3_join_92 ?_
    refine pf_3_20 (n2 _) dX3_join_93 ?_
    exact J_return rfl dX3_join_96 (⟨_, 0, rfl, by rw [hsz, nI_1], hk, hins, fun j hj => by rw [ku_k (k := 12) (k' := 13) _ _ _ _ (by decide)]; exact h13 j hj, hah, fun b h1 _ => absurd h1 (by decide), fun k' i' h1 h2 => by rw [ku_row _ _ h1]; exact ho k' i' h1 h2⟩) (by omega) (by omega)
  | succ k ih =>
    intro R hk hlow hhigh h13 hah ho
    obtain ⟨b, hb⟩ : ∃ b, lo[k]? = some b := ⟨lo[k]'(by omega), List.getElem?_eq_getElem (by omega)⟩
    have hbL : b ∈ LP := hlo b (List.mem_of_getElem? hb)
    have hRk : R 12 0 k = some b := (hlow k (by omega) (by omega)).trans hb

    refine J_iload_n 2 rfl dX3_join_40 ?_
    refine J_if_le 79 (by decide) dX3_join_41 (fun c1 => ?_) (fun c1 => ?_)
    · exfalso
      have Nc1 : (k + 1) ≤ 0 := (nI_leI (a := (k + 1)) (b := 0) (by omega) (by omega)).mp c1
      omega
    have Nc1 : ¬ ((k + 1) ≤ 0) := fun q => c1 ((nI_leI (a := (k + 1)) (b := 0) (by omega) (by omega)).mpr q)
    refine J_aload_n 1 rfl dX3_join_44 ?_
    refine J_aload_n 0 rfl dX3_join_45 ?_
    refine gf_3_11 (n2 _) dX3_join_46 ?_
    refine J_iload_n 2 rfl dX3_join_49 ?_
    refine J_iconst (v := 1) (by decide) dX3_join_50 ?_
    refine J_isub dX3_join_51 ?_
    refine J_topeq (nI (k + 1 - 1)) (by exact nI_subL (a := k + 1) (n := 1) (by omega)) ?_
    refine J_aald (k + 1 - 1) 5 (n12 _) rfl rfl (vp_in_nI (by omega) (by decide)) (nI_toNat (by omega)) dX3_join_52 ?_
    refine J_topv (v' := .ref b) (by rw [show k + 1 - 1 = k from rfl, hRk]; rfl) ?_
    refine cv_3_24 (i := 0) (cells' := 0) (slots' := 0) dX3_join_53 (c_X3_isAhead (by assumption) (by assumption)) ⟨by decide, by decide⟩ rfl rfl (by decide) (by decide) (Nat.le_of_ble_eq_true rfl) (fun _ _ r2 => ?_) (fun _ _ h => h.elim)
    obtain ⟨rfl, rfl⟩ := r2
    refine J_eq (st' := [.int (kb (ahdF I a b))]) rfl rfl rfl ?_
    refine J_if_eq 79 (by decide) dX3_join_56 (fun c3 => ?_) (fun c3 => ?_)
    · skip
      have hins : arrL (ku R 12 0 (k + 1) (some a)) 12 24 (lo.insertIdx (k + 1) a) := by
        intro j hj
        rw [List.getElem?_insertIdx]
        by_cases e : j = k + 1
        · subst e; rw [ku_eq, if_neg (by omega), if_pos rfl, if_pos hk]
        · rw [ku_f _ _ _ _ e]
          by_cases e2 : j < k + 1
          · rw [if_pos e2]; exact hlow j hj e2
          · rw [if_neg e2, if_neg e]; exact hhigh j hj (by omega)
      refine J_aload_n 0 rfl dX3_join_79 ?_
      refine gf_3_11 (n2 _) dX3_join_80 ?_
      refine J_iload_n 2 rfl dX3_join_83 ?_
      refine J_aload_n 1 rfl dX3_join_84 ?_
      refine J_aastR (R' := ku R 12 0 (k + 1) (some a)) (k + 1) 5 (n12 _) rfl rfl (n20 (by assumption)) (vp_in_nI (by omega) (by decide)) (nI_toNat (by omega)) (by rw [ku_own]; rfl) (fun k' i' h => ⟨rfl, rfl, ku_row _ _ h⟩) dX3_join_85 ?_
      refine J_aload_n 0 rfl dX3_join_86 ?_
      refine J_dup rfl dX3_join_87 ?_
      refine gf_3_20 (n2 _) dX3_join_88 ?_
      refine J_iconst (v := 1) (by decide) dX3_join_91 ?_
      refine J_iadd dX3_join_92 ?_
      refine pf_3_20 (n2 _) dX3_join_93 ?_
      exact J_return rfl dX3_join_96 (⟨_, k + 1, rfl, by rw [hsz, nI_1], hk, hins, fun j hj => by rw [ku_k (k := 12) (k' := 13) _ _ _ _ (by decide)]; exact h13 j hj, hah, fun x h1 h2 => by rw [Nat.add_sub_cancel, hb] at h2; cases h2; rw [kb_0] at c3; exact c3, fun k' i' h1 h2 => by rw [ku_row _ _ h1]; exact ho k' i' h1 h2⟩) (by omega) (by omega)
    · skip
      refine J_aload_n 0 rfl dX3_join_59 ?_
      refine gf_3_11 (n2 _) dX3_join_60 ?_
      refine J_iload_n 2 rfl dX3_join_63 ?_
      refine J_aload_n 0 rfl dX3_join_64 ?_
      refine gf_3_11 (n2 _) dX3_join_65 ?_
      refine J_iload_n 2 rfl dX3_join_68 ?_
      refine J_iconst (v := 1) (by decide) dX3_join_69 ?_
      refine J_isub dX3_join_70 ?_
      refine J_topeq (nI (k + 1 - 1)) (by exact nI_subL (a := k + 1) (n := 1) (by omega)) ?_
      refine J_aald (k + 1 - 1) 5 (n12 _) rfl rfl (vp_in_nI (by omega) (by decide)) (nI_toNat (by omega)) dX3_join_71 ?_
      refine J_topv (v' := .ref b) (by rw [show k + 1 - 1 = k from rfl, hRk]; rfl) ?_
      refine J_aastR (R' := ku R 12 0 (k + 1) (some b)) (k + 1) 5 (n12 _) rfl rfl (n20 (by assumption)) (vp_in_nI (by omega) (by decide)) (nI_toNat (by omega)) (by rw [ku_own]; rfl) (fun k' i' h => ⟨rfl, rfl, ku_row _ _ h⟩) dX3_join_72 ?_
      refine J_iinc (v := (nI (k + 1 - 1))) (lv' := [(0, .ref (ka S 2 0)), (1, .ref a), (2, .int (nI (k + 1 - 1)))]) 2 rfl (by exact nI_decL (a := k + 1) (by omega)) (by decide) rfl dX3_join_73 ?_
      refine J_goto 40 (by decide) dX3_join_76 ?_
      refine J_eq (lv' := [(0, .ref (ka S 2 0)), (1, .ref a), (2, .int (nI k))]) rfl rfl rfl ?_
      refine ih (ku R 12 0 (k + 1) (some b)) (by omega) (fun j h1 h2 => ?_) (fun j h1 h2 => ?_) (fun j hj => ?_) (fun j x h1 h2 => ?_) (fun k' i' h1 h2 => ?_)
      · rw [ku_f _ _ _ _ (by omega)]; exact hlow j h1 (by omega)
      · by_cases e : j = k + 1
        · subst e; rw [ku_eq, Nat.add_sub_cancel]; exact hb.symm
        · rw [ku_f _ _ _ _ e]; exact hhigh j h1 (by omega)
      · rw [ku_k (k := 12) (k' := 13) _ _ _ _ (by decide)]; exact h13 j hj
      · by_cases e : j = k
        · subst e; rw [hb] at h2; cases h2; rw [kb_n0] at c3; exact c3
        · exact hah j x (by omega) h2
      · rw [ku_row _ _ h1]; exact ho k' i' h1 h2
set_option maxRecDepth 20000 in
set_option maxHeartbeats 1000000 in
theorem c_X3_join {cy : Nat → ClassId} {S : Nat → Nat → Nat} {I : kI} {L : kL} {R : kRf} {LP : List Nat} {lo lq : List Nat} {a : Nat} (hn : lo.length < 24) (hlo : ∀ x ∈ lo, x ∈ LP) (ha : a ∈ LP) (hsz : I 2 0 2 = nI lo.length) (hlq : lq.length = lo.length) (hR : arrL R 12 24 lo) (hR2 : arrL R 13 24 lq) : Con yX3_join cX3_join 3 none 2 0 0 cy [.ref (ka S 2 0), .ref a] (wc cy S I L R LP) (fun r w' => ∃ (R' : kRf) (k : Nat), r = none ∧ w' = wc cy S (ku I 2 0 2 (nI (lo.length + 1))) L R' LP ∧ k ≤ lo.length ∧ arrL R' 12 24 (lo.insertIdx k a) ∧ arrL R' 13 24 (lq ++ [a]) ∧ (∀ j b, k ≤ j → lo[j]? = some b → ahdF I a b = true) ∧ (∀ b, 1 ≤ k → lo[k - 1]? = some b → ahdF I a b = false) ∧ ∀ k' i', (k', i') ≠ (12, 0) → (k', i') ≠ (13, 0) → R' k' i' = R k' i') kF := by
  refine Con_of (by decide +kernel) (Nat.le_of_ble_eq_true rfl) ?_
  refine J_eq (lv' := [(0, .ref (ka S 2 0)), (1, .ref a)]) rfl rfl rfl ?_
  refine J_aload_n 0 rfl dX3_join_0 ?_
  refine gf_3_20 (n2 _) dX3_join_1 ?_
  refine J_aload_n 0 rfl dX3_join_4 ?_
  refine gf_3_11 (n2 _) dX3_join_5 ?_
  refine J_alen (v := 24) 5 (n12 _) rfl rfl rfl dX3_join_8 ?_
  refine J_eq (st' := [.int 24, .int (nI lo.length)]) rfl rfl (by rw [hsz]) ?_
  refine J_icmp_ge 24 (by decide) dX3_join_9 (fun c1 => ?_) (fun c1 => ?_)
  · exfalso
    have Nc1 : 24 ≤ lo.length := (nI_leI (a := 24) (b := lo.length) (by omega) (by omega)).mp c1
    omega
  have Nc1 : ¬ (24 ≤ lo.length) := fun q => c1 ((nI_leI (a := 24) (b := lo.length) (by omega) (by omega)).mpr q)
  refine J_aload_n 0 rfl dX3_join_12 ?_
  refine gf_3_20 (n2 _) dX3_join_13 ?_
  refine J_aload_n 0 rfl dX3_join_16 ?_
  refine gf_3_17 (n2 _) dX3_join_17 ?_
  refine J_alen (v := 24) 5 (n13 _) rfl rfl rfl dX3_join_20 ?_
  refine J_eq (st' := [.int 24, .int (nI lo.length)]) rfl rfl (by rw [hsz]) ?_
  refine J_icmp_lt 25 (by decide) dX3_join_21 (fun c2 => ?_) (fun c2 => ?_)
  rotate_left
  · exfalso
    have Nc2 : ¬ (lo.length < 24) := fun q => c2 ((nI_ltI (a := lo.length) (b := 24) (by omega) (by omega)).mpr q)
    omega
  have Nc2 : lo.length < 24 := (nI_ltI (a := lo.length) (b := 24) (by omega) (by omega)).mp c2
  refine J_aload_n 0 rfl dX3_join_25 ?_
  refine gf_3_17 (n2 _) dX3_join_26 ?_
  refine J_aload_n 0 rfl dX3_join_29 ?_
  refine gf_3_20 (n2 _) dX3_join_30 ?_
  refine J_topeq (nI lo.length) hsz ?_
  refine J_aload_n 1 rfl dX3_join_33 ?_
  refine J_aastR (R' := ku R 13 0 lo.length (some a)) lo.length 5 (n13 _) rfl rfl (n20 (by assumption)) (vp_in_nI (by omega) (by decide)) (nI_toNat (by omega)) (by rw [ku_own]; rfl) (fun k' i' h => ⟨rfl, rfl, ku_row _ _ h⟩) dX3_join_34 ?_
  refine J_aload_n 0 rfl dX3_join_35 ?_
  refine gf_3_20 (n2 _) dX3_join_36 ?_
  refine J_topeq (nI lo.length) hsz ?_
  refine J_istore_n (lv' := [(0, .ref (ka S 2 0)), (1, .ref a), (2, .int (nI lo.length))]) (by decide) rfl dX3_join_39 ?_
  exact l_X3_join (lq := lq) (R0 := R) hn hlo ha hsz lo.length _ (Nat.le_refl _) (fun j h1 h2 => by rw [ku_k (k := 13) (k' := 12) _ _ _ _ (by decide)]; exact hR j h1) (fun j h1 h2 => by rw [ku_k (k := 13) (k' := 12) _ _ _ _ (by decide), hR j h1, List.getElem?_eq_none (by omega), List.getElem?_eq_none (by omega)]) (fun j hj => by
    by_cases e : j = lo.length
    · subst e; rw [ku_eq, ← hlq, List.getElem?_append_right (Nat.le_refl _)]; simp
    · rw [ku_f _ _ _ _ e, hR2 j hj]
      by_cases e2 : j < lq.length
      · rw [List.getElem?_append_left e2]
      · rw [List.getElem?_eq_none (by omega), List.getElem?_eq_none (by simp; omega)]) (fun j b h1 h2 => by rw [List.getElem?_eq_none h1] at h2; cases h2) (fun k' i' h1 h2 => by rw [ku_row _ _ h2])
