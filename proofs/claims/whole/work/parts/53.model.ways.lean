/-! the model: closer, finds, bits -/

set_option maxRecDepth 20000 in
set_option maxHeartbeats 1000000 in
theorem l_X8_closer {cy : Nat → ClassId} {S : Nat → Nat → Nat} {I : kI} {L : kL} {R : kRf} {m : Mu} {cd : Int32} {t a d : Nat} (hM : MR m cd I L) (hn : mN m) (h10 : mS m ≤ 10) (ht : t < mS m) (ha : a < mS m) (hd : gD (mAdj m) (mS m) t a = d + 1) (hv : ∀ s, s < mS m → I 47 0 s = nI (gD (mAdj m) (mS m) t s)) : ∀ (j s : Nat), s + j = mS m → (∀ x, x < s → (fun s => mAdj m a s && decide (gD (mAdj m) (mS m) t s + 1 = gD (mAdj m) (mS m) t a)) x = false) → J yX8_closer.cls yX8_closer.name cX8_closer 3 (some .int) 2 0 0 cy (kRet (some (.int (oI (gNx (mAdj m) (mS m) t a)))) (wm cy S I L R)) kF 2 [(0, .ref (ka S 30 0)), (1, .int (nI a)), (2, .int (nI s))] [] (wm cy S I L R) 0 0 := by
  have hb : ∀ x, x < mS m → gD (mAdj m) (mS m) t x ≤ 99 := fun x hx => by rcases gD_or (adj := mAdj m) h10 ht hx with h | h <;> omega
  have hda := hb a ha
  intro j
  induction j with
  | zero =>
    intro s hs hno
    have hs : s = mS m := by omega
    subst hs
    have hf : gNx (mAdj m) (mS m) t a = none := find_no hno
    refine J_iload_n 2 rfl dX8_closer_2 ?_
    refine J_aload_n 0 rfl dX8_closer_3 ?_
    refine gf_8_88 n30 dX8_closer_4 ?_
    refine J_topeq (nI (mS m)) ((hM.1 30 0 rfl).trans (by exact hn.1)) ?_
    refine J_icmp_ge 44 (by decide) dX8_closer_7 (fun c1 => ?_) (fun c1 => ?_)
    rotate_left
    · exfalso
      have Nc1 : ¬ ((mS m) ≤ (mS m)) := fun q => c1 ((nI_leI (a := (mS m)) (b := (mS m)) (by omega) (by omega)).mpr q)
      omega
    have Nc1 : (mS m) ≤ (mS m) := (nI_leI (a := (mS m)) (b := (mS m)) (by omega) (by omega)).mp c1
    refine J_iconst (v := (-1)) (by decide) dX8_closer_44 ?_
    exact J_ireturn rfl (by first | rfl | assumption | simp [kb_nar]) dX8_closer_45 (⟨by rw [hf]; rfl, rfl⟩) (by omega) (by omega)
  | succ j ih =>
    intro s hs hno
    have hbs := hb s (by omega)
    by_cases hh : mAdj m a s = true
    · by_cases he : gD (mAdj m) (mS m) t s = d
      · have hp : (fun s => mAdj m a s && decide (gD (mAdj m) (mS m) t s + 1 = gD (mAdj m) (mS m) t a)) s = true := by
          show (mAdj m a s && decide (gD (mAdj m) (mS m) t s + 1 = gD (mAdj m) (mS m) t a)) = true
          rw [hh, hd, he, decide_eq_true rfl]; rfl
        have hf : gNx (mAdj m) (mS m) t a = some s := find_fst (p := (fun s => mAdj m a s && decide (gD (mAdj m) (mS m) t s + 1 = gD (mAdj m) (mS m) t a))) (by omega) hp hno
        refine J_iload_n 2 rfl dX8_closer_2 ?_
        refine J_aload_n 0 rfl dX8_closer_3 ?_
        refine gf_8_88 n30 dX8_closer_4 ?_
        refine J_topeq (nI (mS m)) ((hM.1 30 0 rfl).trans (by exact hn.1)) ?_
        refine J_icmp_ge 44 (by decide) dX8_closer_7 (fun c1 => ?_) (fun c1 => ?_)
        · exfalso
          have Nc1 : (mS m) ≤ s := (nI_leI (a := (mS m)) (b := s) (by omega) (by omega)).mp c1
          omega
        have Nc1 : ¬ ((mS m) ≤ s) := fun q => c1 ((nI_leI (a := (mS m)) (b := s) (by omega) (by omega)).mpr q)
        refine J_aload_n 0 rfl dX8_closer_10 ?_
        refine J_iload_n 1 rfl dX8_closer_11 ?_
        refine J_iload_n 2 rfl dX8_closer_12 ?_
        refine cv_8_99 (cells' := 0) (slots' := 0) dX8_closer_13 (c_X8_isHeard (a := a) (b := s) hM (by omega) (by omega)) n30 ⟨by decide, by decide⟩ rfl rfl (by decide) (by decide) (Nat.le_of_ble_eq_true rfl) (fun _ _ r2 => ?_) (fun _ _ h => h.elim)
        obtain ⟨rfl, rfl⟩ := r2
        refine J_eq (st' := [.int (kb (mAdj m a s))]) rfl rfl rfl ?_
        refine J_topeq 1 (by rw [hh]; rfl) ?_
        refine J_if_eq 38 (by decide) dX8_closer_16 (fun c3 => ?_) (fun c3 => ?_)
        · exact absurd c3 (by decide)
        refine J_aload_n 0 rfl dX8_closer_19 ?_
        refine gf_8_29 n30 dX8_closer_20 ?_
        refine J_iload_n 2 rfl dX8_closer_23 ?_
        refine J_iald s 0 n47 rfl rfl (vp_in_nI (by omega) (by decide)) (nI_toNat (by omega)) dX8_closer_24 ?_
        refine J_topeq (nI (gD (mAdj m) (mS m) t s)) (by exact hv s (by omega)) ?_
        refine J_aload_n 0 rfl dX8_closer_25 ?_
        refine gf_8_29 n30 dX8_closer_26 ?_
        refine J_iload_n 1 rfl dX8_closer_29 ?_
        refine J_iald a 0 n47 rfl rfl (vp_in_nI (by omega) (by decide)) (nI_toNat (by omega)) dX8_closer_30 ?_
        refine J_topeq (nI (gD (mAdj m) (mS m) t a)) (by exact hv a (by omega)) ?_
        refine J_iconst (v := 1) (by decide) dX8_closer_31 ?_
        refine J_isub dX8_closer_32 ?_
        refine J_topeq (nI (gD (mAdj m) (mS m) t a - 1)) (by exact nI_subL (a := gD (mAdj m) (mS m) t a) (n := 1) (by omega)) ?_
        refine J_icmp_ne 38 (by decide) dX8_closer_33 (fun c4 => ?_) (fun c4 => ?_)
        · exfalso
          have Nc4 : ¬ ((gD (mAdj m) (mS m) t s) = (gD (mAdj m) (mS m) t a - 1)) := fun q => c4 ((nI_eqL (a := (gD (mAdj m) (mS m) t s)) (b := (gD (mAdj m) (mS m) t a - 1)) (by omega) (by omega)).mpr q)
          omega
        have Nc4 : (gD (mAdj m) (mS m) t s) = (gD (mAdj m) (mS m) t a - 1) := (nI_eqL (a := (gD (mAdj m) (mS m) t s)) (b := (gD (mAdj m) (mS m) t a - 1)) (by omega) (by omega)).mp c4
        refine J_iload_n 2 rfl dX8_closer_36 ?_
        exact J_ireturn rfl (by first | rfl | assumption | simp [kb_nar]) dX8_closer_37 (⟨by rw [hf]; rfl, rfl⟩) (by omega) (by omega)
      · have hp : (fun s => mAdj m a s && decide (gD (mAdj m) (mS m) t s + 1 = gD (mAdj m) (mS m) t a)) s = false := by
          show (mAdj m a s && decide (gD (mAdj m) (mS m) t s + 1 = gD (mAdj m) (mS m) t a)) = false
          rw [hd, decide_eq_false (by omega), Bool.and_false]
        refine J_iload_n 2 rfl dX8_closer_2 ?_
        refine J_aload_n 0 rfl dX8_closer_3 ?_
        refine gf_8_88 n30 dX8_closer_4 ?_
        refine J_topeq (nI (mS m)) ((hM.1 30 0 rfl).trans (by exact hn.1)) ?_
        refine J_icmp_ge 44 (by decide) dX8_closer_7 (fun c1 => ?_) (fun c1 => ?_)
        · exfalso
          have Nc1 : (mS m) ≤ s := (nI_leI (a := (mS m)) (b := s) (by omega) (by omega)).mp c1
          omega
        have Nc1 : ¬ ((mS m) ≤ s) := fun q => c1 ((nI_leI (a := (mS m)) (b := s) (by omega) (by omega)).mpr q)
        refine J_aload_n 0 rfl dX8_closer_10 ?_
        refine J_iload_n 1 rfl dX8_closer_11 ?_
        refine J_iload_n 2 rfl dX8_closer_12 ?_
        refine cv_8_99 (cells' := 0) (slots' := 0) dX8_closer_13 (c_X8_isHeard (a := a) (b := s) hM (by omega) (by omega)) n30 ⟨by decide, by decide⟩ rfl rfl (by decide) (by decide) (Nat.le_of_ble_eq_true rfl) (fun _ _ r2 => ?_) (fun _ _ h => h.elim)
        obtain ⟨rfl, rfl⟩ := r2
        refine J_eq (st' := [.int (kb (mAdj m a s))]) rfl rfl rfl ?_
        refine J_topeq 1 (by rw [hh]; rfl) ?_
        refine J_if_eq 38 (by decide) dX8_closer_16 (fun c3 => ?_) (fun c3 => ?_)
        · exact absurd c3 (by decide)
        refine J_aload_n 0 rfl dX8_closer_19 ?_
        refine gf_8_29 n30 dX8_closer_20 ?_
        refine J_iload_n 2 rfl dX8_closer_23 ?_
        refine J_iald s 0 n47 rfl rfl (vp_in_nI (by omega) (by decide)) (nI_toNat (by omega)) dX8_closer_24 ?_
        refine J_topeq (nI (gD (mAdj m) (mS m) t s)) (by exact hv s (by omega)) ?_
        refine J_aload_n 0 rfl dX8_closer_25 ?_
        refine gf_8_29 n30 dX8_closer_26 ?_
        refine J_iload_n 1 rfl dX8_closer_29 ?_
        refine J_iald a 0 n47 rfl rfl (vp_in_nI (by omega) (by decide)) (nI_toNat (by omega)) dX8_closer_30 ?_
        refine J_topeq (nI (gD (mAdj m) (mS m) t a)) (by exact hv a (by omega)) ?_
        refine J_iconst (v := 1) (by decide) dX8_closer_31 ?_
        refine J_isub dX8_closer_32 ?_
        refine J_topeq (nI (gD (mAdj m) (mS m) t a - 1)) (by exact nI_subL (a := gD (mAdj m) (mS m) t a) (n := 1) (by omega)) ?_
        refine J_icmp_ne 38 (by decide) dX8_closer_33 (fun c4 => ?_) (fun c4 => ?_)
        rotate_left
        · exfalso
          have Nc4 : (gD (mAdj m) (mS m) t s) = (gD (mAdj m) (mS m) t a - 1) := (nI_eqL (a := (gD (mAdj m) (mS m) t s)) (b := (gD (mAdj m) (mS m) t a - 1)) (by omega) (by omega)).mp c4
          omega
        have Nc4 : ¬ ((gD (mAdj m) (mS m) t s) = (gD (mAdj m) (mS m) t a - 1)) := fun q => c4 ((nI_eqL (a := (gD (mAdj m) (mS m) t s)) (b := (gD (mAdj m) (mS m) t a - 1)) (by omega) (by omega)).mpr q)
        refine J_iinc (v := (nI (s + 1))) (lv' := [(0, .ref (ka S 30 0)), (1, .int (nI a)), (2, .int (nI (s + 1)))]) 2 rfl (by exact nI_add s 1) (by decide) rfl dX8_closer_38 ?_
        refine J_goto 2 (by decide) dX8_closer_41 ?_
        refine J_sub (lv' := [(0, .ref (ka S 30 0)), (1, .int (nI a)), (2, .int (nI (s + 1)))]) [0, 1, 2] rfl ?_
        refine ih (s + 1) (by omega) (fun x hx => ?_)
        by_cases e : x = s
        · subst e; exact hp
        · exact hno x (by omega)
    · have hh : mAdj m a s = false := by simpa using hh
      have hp : (fun s => mAdj m a s && decide (gD (mAdj m) (mS m) t s + 1 = gD (mAdj m) (mS m) t a)) s = false := by
        show (mAdj m a s && decide (gD (mAdj m) (mS m) t s + 1 = gD (mAdj m) (mS m) t a)) = false
        rw [hh]; rfl
      refine J_iload_n 2 rfl dX8_closer_2 ?_
      refine J_aload_n 0 rfl dX8_closer_3 ?_
      refine gf_8_88 n30 dX8_closer_4 ?_
      refine J_topeq (nI (mS m)) ((hM.1 30 0 rfl).trans (by exact hn.1)) ?_
      refine J_icmp_ge 44 (by decide) dX8_closer_7 (fun c1 => ?_) (fun c1 => ?_)
      · exfalso
        have Nc1 : (mS m) ≤ s := (nI_leI (a := (mS m)) (b := s) (by omega) (by omega)).mp c1
        omega
      have Nc1 : ¬ ((mS m) ≤ s) := fun q => c1 ((nI_leI (a := (mS m)) (b := s) (by omega) (by omega)).mpr q)
      refine J_aload_n 0 rfl dX8_closer_10 ?_
      refine J_iload_n 1 rfl dX8_closer_11 ?_
      refine J_iload_n 2 rfl dX8_closer_12 ?_
      refine cv_8_99 (cells' := 0) (slots' := 0) dX8_closer_13 (c_X8_isHeard (a := a) (b := s) hM (by omega) (by omega)) n30 ⟨by decide, by decide⟩ rfl rfl (by decide) (by decide) (Nat.le_of_ble_eq_true rfl) (fun _ _ r2 => ?_) (fun _ _ h => h.elim)
      obtain ⟨rfl, rfl⟩ := r2
      refine J_eq (st' := [.int (kb (mAdj m a s))]) rfl rfl rfl ?_
      refine J_topeq 0 (by rw [hh]; rfl) ?_
      refine J_if_eq 38 (by decide) dX8_closer_16 (fun c3 => ?_) (fun c3 => ?_)
      rotate_left
      · exact absurd (by decide) c3
      refine J_iinc (v := (nI (s + 1))) (lv' := [(0, .ref (ka S 30 0)), (1, .int (nI a)), (2, .int (nI (s + 1)))]) 2 rfl (by exact nI_add s 1) (by decide) rfl dX8_closer_38 ?_
      refine J_goto 2 (by decide) dX8_closer_41 ?_
      refine J_sub (lv' := [(0, .ref (ka S 30 0)), (1, .int (nI a)), (2, .int (nI (s + 1)))]) [0, 1, 2] rfl ?_
      refine ih (s + 1) (by omega) (fun x hx => ?_)
      by_cases e : x = s
      · subst e; exact hp
      · exact hno x (by omega)

set_option maxRecDepth 20000 in
set_option maxHeartbeats 1000000 in
theorem c_X8_closer {cy : Nat → ClassId} {S : Nat → Nat → Nat} {I : kI} {L : kL} {R : kRf} {m : Mu} {cd : Int32} {t a d : Nat} (hM : MR m cd I L) (hn : mN m) (h10 : mS m ≤ 10) (ht : t < mS m) (ha : a < mS m) (hd : gD (mAdj m) (mS m) t a = d + 1) (hv : ∀ s, s < mS m → I 47 0 s = nI (gD (mAdj m) (mS m) t s)) : Con yX8_closer cX8_closer 3 (some .int) 2 0 0 cy [.ref (ka S 30 0), .int (nI a)] (wm cy S I L R) (kRet (some (.int (oI (gNx (mAdj m) (mS m) t a)))) (wm cy S I L R)) kF := by
  refine Con_of (by decide +kernel) (Nat.le_of_ble_eq_true rfl) ?_
  refine J_eq (lv' := [(0, .ref (ka S 30 0)), (1, .int (nI a))]) rfl rfl rfl ?_
  refine J_iconst (v := 0) (by decide) dX8_closer_0 ?_
  refine J_istore_n (lv' := [(0, .ref (ka S 30 0)), (1, .int (nI a)), (2, .int 0)]) (by decide) rfl dX8_closer_1 ?_
  refine J_eq (lv' := [(0, .ref (ka S 30 0)), (1, .int (nI a)), (2, .int (nI 0))]) rfl rfl rfl ?_
  exact l_X8_closer hM hn h10 ht ha hd hv (mS m) 0 (by omega) (fun x hx => absurd hx (by omega))

set_option maxRecDepth 20000 in
set_option maxHeartbeats 1000000 in
theorem l_X8_finds {cy : Nat → ClassId} {S : Nat → Nat → Nat} {R : kRf} {m : Mu} {cd : Int32} {s t : Nat} (hn : mN m) (h10 : mS m ≤ 10) (ht : t < mS m) : ∀ (d f a : Nat) (pre : List Nat) (I : kI) (L : kL), a < mS m → gD (mAdj m) (mS m) t a = d → d < f → d < 99 → pre.length + d + 1 ≤ 10 → (mWay m (nI s) (nI t)) = pre ++ gW (mAdj m) (mS m) t f a → MR m cd I L → (∀ s, s < mS m → I 47 0 s = nI (gD (mAdj m) (mS m) t s)) → I 30 0 9 = nI pre.length → (∀ j x, pre[j]? = some x → I 48 0 j = nI x) → J yX8_finds.cls yX8_finds.name cX8_finds 4 (some .boolean) 3 0 0 cy (fun r w' => r = some (.int (kb (decide ((mWay m (nI s) (nI t)) ≠ [])))) ∧ ∃ (I' : kI) (L' : kL), w' = wm cy S I' L' R ∧ MR m cd I' L' ∧ ((mWay m (nI s) (nI t)) ≠ [] → I' 30 0 9 = nI (mWay m (nI s) (nI t)).length ∧ ∀ j x, (mWay m (nI s) (nI t))[j]? = some x → I' 48 0 j = nI x)) kF 25 [(0, .ref (ka S 30 0)), (1, .int (nI s)), (2, .int (nI t)), (3, .int (nI a))] [] (wm cy S I L R) 0 0 := by
  intro d
  induction d with
  | zero =>
    intro f a pre I L ha hd hf h99 hp hw hM hv h9 h8
    have hat : a = t := gD_zero hd
    subst hat
    obtain ⟨f, rfl⟩ : ∃ g, f = g + 1 := ⟨f - 1, by omega⟩
    have hw : (mWay m (nI s) (nI a)) = pre ++ [a] := by rw [hw]; unfold gW; rw [if_pos rfl]
    have hne : (mWay m (nI s) (nI a)) ≠ [] := by rw [hw]; simp
    have hlen : (mWay m (nI s) (nI a)).length = pre.length + 1 := by rw [hw]; simp
    refine J_iload_n 3 rfl dX8_finds_25 ?_
    refine J_iload_n 2 rfl dX8_finds_26 ?_
    refine J_icmp_eq 59 (by decide) dX8_finds_27 (fun c1 => ?_) (fun c1 => ?_)
    rotate_left
    · exfalso
      have Nc1 : ¬ (a = a) := fun q => c1 ((nI_eqL (a := a) (b := a) (by omega) (by omega)).mpr q)
      omega
    have Nc1 : a = a := (nI_eqL (a := a) (b := a) (by omega) (by omega)).mp c1
    refine J_aload_n 0 rfl dX8_finds_59 ?_
    refine gf_8_32 n30 dX8_finds_60 ?_
    refine J_aload_n 0 rfl dX8_finds_63 ?_
    refine gf_8_106 n30 dX8_finds_64 ?_
    refine J_topeq (nI pre.length) (by exact h9) ?_
    refine J_iload_n 2 rfl dX8_finds_67 ?_
    refine J_iast (I' := ku I 48 0 pre.length (nI a)) (L' := L) (R' := R) pre.length 0 n48 rfl rfl (vp_in_nI (by omega) (by decide)) (nI_toNat (by omega)) (by rw [ku_own]; rfl) (fun k' i' h => ⟨ku_row _ _ h, rfl, rfl⟩) dX8_finds_68 ?_
    have hM2 := MR_sc (k := 48) (j := pre.length) (v := (nI a)) hM rfl (pair_ne (by decide))
    refine J_aload_n 0 rfl dX8_finds_69 ?_
    refine J_dup rfl dX8_finds_70 ?_
    refine gf_8_106 n30 dX8_finds_71 ?_
    refine J_topeq (I 30 0 9) (by simp [ku]) ?_
    refine J_topeq (nI pre.length) (by exact h9) ?_
    refine J_iconst (v := 1) (by decide) dX8_finds_74 ?_
    refine J_iadd dX8_finds_75 ?_
    refine J_topeq (nI (pre.length + 1)) (by exact nI_add pre.length 1) ?_
    refine pf_8_106 n30 dX8_finds_76 ?_
    have hM3 := MR_sc (k := 30) (j := 9) (v := (nI (pre.length + 1))) hM2 rfl (by decide)
    refine J_iconst (v := 1) (by decide) dX8_finds_79 ?_
    exact J_ireturn rfl (by first | rfl | assumption | simp [kb_nar]) dX8_finds_80 (⟨by rw [decide_eq_true hne]; rfl, _, _, rfl, hM3, fun _ => ⟨by rw [hlen, ku_eq], fun j x hx => by
      rw [hw] at hx
      by_cases e : j = pre.length
      · subst e
        simp at hx
        subst hx
        rw [ku_k _ _ _ _ (by decide), ku_eq]
      · have hj : j < pre.length := by have := (List.getElem?_eq_some_iff.mp hx).1; simp at this; omega
        rw [List.getElem?_append_left hj] at hx
        rw [ku_k _ _ _ _ (by decide), ku_f _ _ _ _ e]; exact h8 j x hx⟩⟩) (by omega) (by omega)
  | succ d ih =>
    intro f a pre I L ha hd hf h99 hp hw hM hv h9 h8
    have hat : a ≠ t := by
      intro z
      subst z
      rw [gD_end h10 ht] at hd
      omega
    obtain ⟨y, y1, y2, y3, y4⟩ := gNx_some (adj := mAdj m) h10 ht ha hd (by omega)
    obtain ⟨f, rfl⟩ : ∃ g, f = g + 1 := ⟨f - 1, by omega⟩
    have hw : (mWay m (nI s) (nI t)) = (pre ++ [a]) ++ gW (mAdj m) (mS m) t f y := by
      rw [hw]
      show pre ++ (if a = t then [a] else match gNx (mAdj m) (mS m) t a with | none => [] | some s => a :: gW (mAdj m) (mS m) t f s) = _
      rw [if_neg hat, y1]
      simp
    refine J_iload_n 3 rfl dX8_finds_25 ?_
    refine J_iload_n 2 rfl dX8_finds_26 ?_
    refine J_icmp_eq 59 (by decide) dX8_finds_27 (fun c1 => ?_) (fun c1 => ?_)
    · exfalso
      have Nc1 : a = t := (nI_eqL (a := a) (b := t) (by omega) (by omega)).mp c1
      omega
    have Nc1 : ¬ (a = t) := fun q => c1 ((nI_eqL (a := a) (b := t) (by omega) (by omega)).mpr q)
    refine J_aload_n 0 rfl dX8_finds_30 ?_
    refine gf_8_32 n30 dX8_finds_31 ?_
    refine J_aload_n 0 rfl dX8_finds_34 ?_
    refine gf_8_106 n30 dX8_finds_35 ?_
    refine J_topeq (nI pre.length) (by exact h9) ?_
    refine J_iload_n 3 rfl dX8_finds_38 ?_
    refine J_iast (I' := ku I 48 0 pre.length (nI a)) (L' := L) (R' := R) pre.length 0 n48 rfl rfl (vp_in_nI (by omega) (by decide)) (nI_toNat (by omega)) (by rw [ku_own]; rfl) (fun k' i' h => ⟨ku_row _ _ h, rfl, rfl⟩) dX8_finds_39 ?_
    have hM2 := MR_sc (k := 48) (j := pre.length) (v := (nI a)) hM rfl (pair_ne (by decide))
    refine J_aload_n 0 rfl dX8_finds_40 ?_
    refine J_dup rfl dX8_finds_41 ?_
    refine gf_8_106 n30 dX8_finds_42 ?_
    refine J_topeq (I 30 0 9) (by simp [ku]) ?_
    refine J_topeq (nI pre.length) (by exact h9) ?_
    refine J_iconst (v := 1) (by decide) dX8_finds_45 ?_
    refine J_iadd dX8_finds_46 ?_
    refine J_topeq (nI (pre.length + 1)) (by exact nI_add pre.length 1) ?_
    refine pf_8_106 n30 dX8_finds_47 ?_
    have hM3 := MR_sc (k := 30) (j := 9) (v := (nI (pre.length + 1))) hM2 rfl (by decide)
    refine J_aload_n 0 rfl dX8_finds_50 ?_
    refine J_iload_n 3 rfl dX8_finds_51 ?_
    refine cv_8_109 (cells' := 0) (slots' := 0) dX8_finds_52 (c_X8_closer hM3 hn h10 ht ha hd (fun x hx => (by rw [ku_k _ _ _ _ (by decide), ku_k _ _ _ _ (by decide)]; exact hv x hx))) n30 ⟨by decide, by decide⟩ rfl rfl (by decide) (by decide) (Nat.le_of_ble_eq_true rfl) (fun _ _ r4 => ?_) (fun _ _ h => h.elim)
    obtain ⟨rfl, rfl⟩ := r4
    refine J_eq (st' := [.int (oI (gNx (mAdj m) (mS m) t a))]) rfl rfl rfl ?_
    refine J_topeq (nI y) (by rw [y1]; rfl) ?_
    refine J_istore_n (lv' := [(0, .ref (ka S 30 0)), (1, .int (nI s)), (2, .int (nI t)), (3, .int (nI y))]) (by decide) rfl dX8_finds_55 ?_
    refine J_goto 25 (by decide) dX8_finds_56 ?_
    refine ih f y (pre ++ [a]) _ _ y2 y4 (by omega) (by omega) (by simp; omega) hw hM3 (fun x hx => (by rw [ku_k _ _ _ _ (by decide), ku_k _ _ _ _ (by decide)]; exact hv x hx)) (by rw [ku_eq]; simp) (fun j x hx => ?_)
    by_cases e : j = pre.length
    · subst e
      simp at hx
      subst hx
      rw [ku_k _ _ _ _ (by decide), ku_eq]
    · have hj : j < pre.length := by have := (List.getElem?_eq_some_iff.mp hx).1; simp at this; omega
      rw [List.getElem?_append_left hj] at hx
      rw [ku_k _ _ _ _ (by decide), ku_f _ _ _ _ e]; exact h8 j x hx

set_option maxRecDepth 20000 in
set_option maxHeartbeats 1000000 in
theorem c_X8_finds {cy : Nat → ClassId} {S : Nat → Nat → Nat} {I : kI} {L : kL} {R : kRf} {m : Mu} {cd : Int32} {s t : Nat} (hM : MR m cd I L) (hn : mN m) (h10 : mS m ≤ 10) (hs : s < mS m) (ht : t < mS m) : Con yX8_finds cX8_finds 4 (some .boolean) 3 0 0 cy [.ref (ka S 30 0), .int (nI s), .int (nI t)] (wm cy S I L R) (fun r w' => r = some (.int (kb (decide ((mWay m (nI s) (nI t)) ≠ [])))) ∧ ∃ (I' : kI) (L' : kL), w' = wm cy S I' L' R ∧ MR m cd I' L' ∧ ((mWay m (nI s) (nI t)) ≠ [] → I' 30 0 9 = nI (mWay m (nI s) (nI t)).length ∧ ∀ j x, (mWay m (nI s) (nI t))[j]? = some x → I' 48 0 j = nI x)) kF := by
  have hb := gD_or (adj := mAdj m) h10 ht hs
  have e : mWay m (nI s) (nI t) = gWay (mAdj m) (mS m) t s := by unfold mWay; rw [nI_toNat (by omega), nI_toNat (by omega)]
  by_cases h9 : gD (mAdj m) (mS m) t s < 99
  · have hl := (gWay_len (adj := mAdj m) h10 ht hs h9).1
    have hw : mWay m (nI s) (nI t) = [] ++ gW (mAdj m) (mS m) t 10 s := by rw [e]; unfold gWay; rw [if_pos h9]; rfl
    have hsn := (gD_some rfl h9).2.1
    refine Con_of (by decide +kernel) (Nat.le_of_ble_eq_true rfl) ?_
    refine J_eq (lv' := [(0, .ref (ka S 30 0)), (1, .int (nI s)), (2, .int (nI t))]) rfl rfl rfl ?_
    refine J_aload_n 0 rfl dX8_finds_0 ?_
    refine J_iload_n 2 rfl dX8_finds_1 ?_
    refine cv_8_102 (cells' := 0) (slots' := 0) dX8_finds_2 (c_X8_counts hM hn h10 ht) n30 ⟨by decide, by decide⟩ rfl rfl (by decide) (by decide) (Nat.le_of_ble_eq_true rfl) (fun _ _ r2 => ?_) (fun _ _ h => h.elim)
    obtain ⟨rfl, I1, L1, rfl, hM1, hv⟩ := r2
    refine J_eq (st' := []) rfl rfl rfl ?_
    refine J_aload_n 0 rfl dX8_finds_5 ?_
    refine gf_8_29 n30 dX8_finds_6 ?_
    refine J_iload_n 1 rfl dX8_finds_9 ?_
    refine J_iald s 0 n47 rfl rfl (vp_in_nI (by omega) (by decide)) (nI_toNat (by omega)) dX8_finds_10 ?_
    refine J_topeq (nI (gD (mAdj m) (mS m) t s)) (by exact hv s (by omega)) ?_
    refine J_bipush (v := 99) (by decide) dX8_finds_11 ?_
    refine J_icmp_ne 18 (by decide) dX8_finds_13 (fun c3 => ?_) (fun c3 => ?_)
    rotate_left
    · exfalso
      have Nc3 : (gD (mAdj m) (mS m) t s) = 99 := (nI_eqL (a := (gD (mAdj m) (mS m) t s)) (b := 99) (by omega) (by omega)).mp c3
      omega
    have Nc3 : ¬ ((gD (mAdj m) (mS m) t s) = 99) := fun q => c3 ((nI_eqL (a := (gD (mAdj m) (mS m) t s)) (b := 99) (by omega) (by omega)).mpr q)
    refine J_aload_n 0 rfl dX8_finds_18 ?_
    refine J_iconst (v := 0) (by decide) dX8_finds_19 ?_
    refine pf_8_106 n30 dX8_finds_20 ?_
    have hM4 := MR_sc (k := 30) (j := 9) (v := 0) hM1 rfl (by decide)
    refine J_iload_n 1 rfl dX8_finds_23 ?_
    refine J_istore_n (lv' := [(0, .ref (ka S 30 0)), (1, .int (nI s)), (2, .int (nI t)), (3, .int (nI s))]) (by decide) rfl dX8_finds_24 ?_
    exact l_X8_finds hn h10 ht _ 10 s [] _ _ hs rfl (by omega) h9 (by simp; omega) hw hM4 (fun x hx => (by rw [ku_k _ _ _ _ (by decide)]; exact hv x hx)) (by rw [ku_eq]; rfl) (fun j x hx => by simp at hx)
  · have hw : mWay m (nI s) (nI t) = [] := by rw [e]; exact if_neg h9
    have h99 : gD (mAdj m) (mS m) t s = 99 := by omega
    refine Con_of (by decide +kernel) (Nat.le_of_ble_eq_true rfl) ?_
    refine J_eq (lv' := [(0, .ref (ka S 30 0)), (1, .int (nI s)), (2, .int (nI t))]) rfl rfl rfl ?_
    refine J_aload_n 0 rfl dX8_finds_0 ?_
    refine J_iload_n 2 rfl dX8_finds_1 ?_
    refine cv_8_102 (cells' := 0) (slots' := 0) dX8_finds_2 (c_X8_counts hM hn h10 ht) n30 ⟨by decide, by decide⟩ rfl rfl (by decide) (by decide) (Nat.le_of_ble_eq_true rfl) (fun _ _ r2 => ?_) (fun _ _ h => h.elim)
    obtain ⟨rfl, I1, L1, rfl, hM1, hv⟩ := r2
    refine J_eq (st' := []) rfl rfl rfl ?_
    refine J_aload_n 0 rfl dX8_finds_5 ?_
    refine gf_8_29 n30 dX8_finds_6 ?_
    refine J_iload_n 1 rfl dX8_finds_9 ?_
    refine J_iald s 0 n47 rfl rfl (vp_in_nI (by omega) (by decide)) (nI_toNat (by omega)) dX8_finds_10 ?_
    refine J_topeq 99 (by rw [hv s hs, h99]; rfl) ?_
    refine J_bipush (v := 99) (by decide) dX8_finds_11 ?_
    refine J_icmp_ne 18 (by decide) dX8_finds_13 (fun c3 => ?_) (fun c3 => ?_)
    · exact absurd (by decide) c3
    refine J_iconst (v := 0) (by decide) dX8_finds_16 ?_
    exact J_ireturn rfl (by first | rfl | assumption | simp [kb_nar]) dX8_finds_17 (⟨by rw [hw]; rfl, _, _, rfl, hM1, fun z => absurd hw z⟩) (by omega) (by omega)

set_option maxRecDepth 20000 in
set_option maxHeartbeats 1000000 in
theorem l_X8_bits {cy : Nat → ClassId} {S : Nat → Nat → Nat} {I : kI} {L : kL} {R : kRf} {m : Mu} {cd : Int32} {l : List Nat} (hM : MR m cd I L) (h9 : I 30 0 9 = nI l.length) (hl : l.length ≤ 10) (h8 : ∀ j x, l[j]? = some x → I 48 0 j = nI x) : ∀ (j k : Nat), k + j = l.length → J yX8_bits.cls yX8_bits.name cX8_bits 3 (some .int) 0 0 0 cy (kRet (some (.int (gBits l))) (wm cy S I L R)) kF 4 [(0, .ref (ka S 30 0)), (1, .int ((l.take k).foldl (fun b s => b ||| ((1 : Int32) <<< (nI s &&& 31))) 0)), (2, .int (nI k))] [] (wm cy S I L R) 0 0 := by
  intro j
  induction j with
  | zero =>
    intro k hk
    have hk : k = l.length := by omega
    subst hk
    refine J_iload_n 2 rfl dX8_bits_4 ?_
    refine J_aload_n 0 rfl dX8_bits_5 ?_
    refine gf_8_106 n30 dX8_bits_6 ?_
    refine J_topeq (nI l.length) (by exact h9) ?_
    refine J_icmp_ge 29 (by decide) dX8_bits_9 (fun c1 => ?_) (fun c1 => ?_)
    rotate_left
    · exfalso
      have Nc1 : ¬ (l.length ≤ l.length) := fun q => c1 ((nI_leI (a := l.length) (b := l.length) (by omega) (by omega)).mpr q)
      omega
    have Nc1 : l.length ≤ l.length := (nI_leI (a := l.length) (b := l.length) (by omega) (by omega)).mp c1
    refine J_iload_n 1 rfl dX8_bits_29 ?_
    exact J_ireturn rfl (by first | rfl | assumption | simp [kb_nar]) dX8_bits_30 (⟨by rw [List.take_length]; rfl, rfl⟩) (by omega) (by omega)
  | succ j ih =>
    intro k hk
    have hkl : k < l.length := by omega
    have hx := h8 k l[k] (List.getElem?_eq_getElem hkl)
    have hf : (l.take (k + 1)).foldl (fun b s => b ||| ((1 : Int32) <<< (nI s &&& 31))) 0 = ((l.take k).foldl (fun b s => b ||| ((1 : Int32) <<< (nI s &&& 31))) 0) ||| ((1 : Int32) <<< (nI l[k] &&& 31)) := by
      rw [List.take_succ, List.getElem?_eq_getElem hkl, List.foldl_append]; rfl
    refine J_iload_n 2 rfl dX8_bits_4 ?_
    refine J_aload_n 0 rfl dX8_bits_5 ?_
    refine gf_8_106 n30 dX8_bits_6 ?_
    refine J_topeq (nI l.length) (by exact h9) ?_
    refine J_icmp_ge 29 (by decide) dX8_bits_9 (fun c1 => ?_) (fun c1 => ?_)
    · exfalso
      have Nc1 : l.length ≤ k := (nI_leI (a := l.length) (b := k) (by omega) (by omega)).mp c1
      omega
    have Nc1 : ¬ (l.length ≤ k) := fun q => c1 ((nI_leI (a := l.length) (b := k) (by omega) (by omega)).mpr q)
    refine J_iload_n 1 rfl dX8_bits_12 ?_
    refine J_iconst (v := 1) (by decide) dX8_bits_13 ?_
    refine J_aload_n 0 rfl dX8_bits_14 ?_
    refine gf_8_32 n30 dX8_bits_15 ?_
    refine J_iload_n 2 rfl dX8_bits_18 ?_
    refine J_iald k 0 n48 rfl rfl (vp_in_nI (by omega) (by decide)) (nI_toNat (by omega)) dX8_bits_19 ?_
    refine J_topeq (nI l[k]) (by exact hx) ?_
    refine J_ishl dX8_bits_20 ?_
    refine J_ior dX8_bits_21 ?_
    refine J_istore_n (lv' := [(0, .ref (ka S 30 0)), (1, .int (((l.take k).foldl (fun b s => b ||| ((1 : Int32) <<< (nI s &&& 31))) 0) ||| (1 <<< ((nI l[k]) &&& 31)))), (2, .int (nI k))]) (by decide) rfl dX8_bits_22 ?_
    refine J_iinc (v := (nI (k + 1))) (lv' := [(0, .ref (ka S 30 0)), (1, .int (((l.take k).foldl (fun b s => b ||| ((1 : Int32) <<< (nI s &&& 31))) 0) ||| (1 <<< ((nI l[k]) &&& 31)))), (2, .int (nI (k + 1)))]) 2 rfl (by exact nI_add k 1) (by decide) rfl dX8_bits_23 ?_
    refine J_goto 4 (by decide) dX8_bits_26 ?_
    refine J_eq (lv' := [(0, .ref (ka S 30 0)), (1, .int ((l.take (k + 1)).foldl (fun b s => b ||| ((1 : Int32) <<< (nI s &&& 31))) 0)), (2, .int (nI (k + 1)))]) rfl (by rw [hf]) rfl ?_
    exact ih (k + 1) (by omega)

set_option maxRecDepth 20000 in
set_option maxHeartbeats 1000000 in
theorem c_X8_bits {cy : Nat → ClassId} {S : Nat → Nat → Nat} {I : kI} {L : kL} {R : kRf} {m : Mu} {cd : Int32} {l : List Nat} (hM : MR m cd I L) (h9 : I 30 0 9 = nI l.length) (hl : l.length ≤ 10) (h8 : ∀ j x, l[j]? = some x → I 48 0 j = nI x) : Con yX8_bits cX8_bits 3 (some .int) 0 0 0 cy [.ref (ka S 30 0)] (wm cy S I L R) (kRet (some (.int (gBits l))) (wm cy S I L R)) kF := by
  refine Con_of (by decide +kernel) (Nat.le_of_ble_eq_true rfl) ?_
  refine J_eq (lv' := [(0, .ref (ka S 30 0))]) rfl rfl rfl ?_
  refine J_iconst (v := 0) (by decide) dX8_bits_0 ?_
  refine J_istore_n (lv' := [(0, .ref (ka S 30 0)), (1, .int 0)]) (by decide) rfl dX8_bits_1 ?_
  refine J_iconst (v := 0) (by decide) dX8_bits_2 ?_
  refine J_istore_n (lv' := [(0, .ref (ka S 30 0)), (1, .int 0), (2, .int 0)]) (by decide) rfl dX8_bits_3 ?_
  refine J_eq (lv' := [(0, .ref (ka S 30 0)), (1, .int ((l.take 0).foldl (fun b s => b ||| ((1 : Int32) <<< (nI s &&& 31))) 0)), (2, .int (nI 0))]) rfl rfl rfl ?_
  exact l_X8_bits hM h9 hl h8 l.length 0 (by omega)

