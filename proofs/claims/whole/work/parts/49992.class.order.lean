/-! the line by counting, isInOrder -/
theorem nI_e {x : Int32} {n : Nat} (hn : n < 2 ^ 31) (h0 : 0 ≤ x) (h : x < nI n) : ∃ k : Nat, k < n ∧ x = nI k := by
  obtain ⟨k, hk, rfl⟩ := nI_of (x := x) (by grind)
  exact ⟨k, (nI_ltI (by omega) (by omega)).mp h, rfl⟩
theorem alw_eq {m : Mu} {I : kI} {L : kL} {R : kRf} {LP : List Nat} {rc : Nat → Nat} {ln qu : List Nat} {lg B : Nat} (hR : Rel m I L R LP rc ln qu lg) (hI : Inv m B) : alwF I R = (List.range (mC m)).all (fun c => !(mSpk m c && decide (m.1 56 c < nI (mFirst m c)))) := by
  obtain ⟨hS, hC, hH, hL, hG, hT⟩ := hR
  have hh := hI.2.2.2.2.1
  have e14 := hH.1 0 (by decide)
  unfold alwF
  rw [e14]
  cases hm : mOn m 0 with
  | none =>
    show true = _
    symm
    rw [List.all_eq_true]
    intro c hc
    have hc := List.mem_range.mp hc
    by_cases hs : mSpk m c = true
    · obtain ⟨h, h3, e⟩ := hh.1.1 c hc hs
      have h0 : h ≠ 0 := by
        intro z
        subst z
        have := List.find?_eq_none.mp hm c (List.mem_range.mpr hc)
        rw [hs, e] at this
        exact this rfl
      have hf : mFirst m c ≤ 1 := by unfold mFirst; split <;> omega
      have : ¬ m.1 56 c < nI (mFirst m c) := by
        rw [e]
        intro z
        have := (nI_ltI (by omega) (by omega)).mp z
        omega
      simp [this]
    · simp [hs]
  | some o =>
    have ho := mOn_some hm
    show mayF I (rc o) 0 = _
    rw [may_eq hC ho.1]
    by_cases hf : mFirst m o = 0
    · rw [decide_eq_true hf]
      symm
      rw [List.all_eq_true]
      intro c hc
      have hc := List.mem_range.mp hc
      by_cases hs : mSpk m c = true
      · obtain ⟨h, h3, e⟩ := hh.1.1 c hc hs
        have hf1 : mFirst m c ≤ 1 := by unfold mFirst; split <;> omega
        have hk : mFirst m c ≤ h := by
          by_cases h0 : h = 0
          · subst h0
            have := hh.1.2 c o hc ho.1 hs ho.2.1 (e.trans ho.2.2.symm)
            rw [this, hf]
            exact Nat.le_refl _
          · omega
        have : ¬ m.1 56 c < nI (mFirst m c) := by
          rw [e]
          intro z
          have := (nI_ltI (by omega) (by omega)).mp z
          omega
        simp [this]
      · simp [hs]
    · rw [decide_eq_false hf]
      symm
      rw [List.all_eq_false]
      refine ⟨o, List.mem_range.mpr ho.1, ?_⟩
      have hf1 : mFirst m o = 1 := by unfold mFirst at hf ⊢; split at hf <;> simp_all
      rw [ho.2.1, ho.2.2, hf1]
      decide
theorem and_or0 {x y z : Int32} (h1 : x &&& y = 0) (h2 : x &&& z = 0) : x &&& (y ||| z) = 0 := b_ext (fun i _ => by
  have e1 : bt (x &&& y) i = false := by rw [h1, b_0]
  have e2 : bt (x &&& z) i = false := by rw [h2, b_0]
  rw [b_and] at e1 e2
  rw [b_and, b_or, b_0]
  cases hx : bt x i <;> simp_all)
theorem nosh_eq {m : Mu} {I : kI} {L : kL} {R : kRf} {LP : List Nat} {rc : Nat → Nat} {ln qu : List Nat} {lg B : Nat} (hR : Rel m I L R LP rc ln qu lg) (hI : Inv m B) : noShF I R = true := by
  obtain ⟨hS, hC, hH, hL, hG, hT⟩ := hR
  have hh := hI.2.2.2.2.1
  have hw : ∀ h, h < 3 → wyF I (R 14 0 h) = (match mOn m h with | none => 0 | some o => m.1 57 o) := by
    intro h h3
    rw [hH.1 h h3]
    cases hm : mOn m h with
    | none => rfl
    | some o =>
      have ho := mOn_some hm
      exact ((hC.2.2 o ho.1).2 ho.2.1).2.1
  have hs : ∀ h v, h < 3 → shF I v (R 14 0 h) = mSh m v (mOn m h) := fun h v h3 => by rw [hH.1 h h3]; exact sh_eq hC
  have hz : ∀ h k, h < 3 → k < 3 → h ≠ k → ∀ o p, mOn m h = some o → mOn m k = some p → m.1 57 o &&& m.1 57 p = 0 := by
    intro h k h3 k3 hk o p e1 e2
    have h1 := mOn_some e1
    have h2 := mOn_some e2
    refine hh.2.1 o p h1.1 h2.1 h1.2.1 h2.2.1 ?_
    intro z
    subst z
    have := h1.2.2.symm.trans h2.2.2
    exact hk ((nI_eq (by omega) (by omega)).mp this)
  unfold noShF
  rw [hs 0 _ (by decide), hs 1 _ (by decide), hs 2 _ (by decide), hw 0 (by decide), hw 1 (by decide)]
  have z0 : ∀ h, mSh m 0 (mOn m h) = false := by intro h; cases mOn m h <;> simp [mSh]
  rw [z0]
  have d1 := hz 1 0 (by decide) (by decide) (by decide)
  have d2 := hz 2 0 (by decide) (by decide) (by decide)
  have d3 := hz 2 1 (by decide) (by decide) (by decide)
  have or0 : ∀ x : Int32, (0 : Int32) ||| x = x := by intro x; simp
  cases h0 : mOn m 0 <;> cases h1 : mOn m 1 <;> cases h2 : mOn m 2
  all_goals (simp only [mSh, or0])
  all_goals (try simp)
  all_goals (try exact d1 _ _ h1 h0)
  all_goals (try exact d2 _ _ h2 h0)
  all_goals (try exact d3 _ _ h2 h1)
  all_goals (try exact ⟨d1 _ _ h1 h0, and_or0 (d2 _ _ h2 h0) (d3 _ _ h2 h1)⟩)

set_option maxRecDepth 20000 in
set_option maxHeartbeats 1000000 in
theorem c_X7_inLineByCounting_s {cy : Nat → ClassId} {S : Nat → Nat → Nat} {I : kI} {L : kL} {R : kRf} {LP : List Nat} {m : Mu} {rc : Nat → Nat} {ln qu : List Nat} {lg B : Nat} {x : Int32} {c : Nat} (hR : Rel m I L R LP rc ln qu lg) (hI : Inv m B) (hB : B < 2 ^ 30) (hlg : lg < 2 ^ 30) (hx : lnAt ln x = some c) : Con yX7_inLineByCounting cX7_inLineByCounting 2 (some .int) 7 0 0 cy [.ref (ka S 0 0), .int x] (wc cy S I L R LP) (fun r w' => r = some (.int (nI c)) ∧ RelX cy S LP rc m w') kF := by
  obtain ⟨hS, hC, hH, hL, hG, hT⟩ := hR
  have hR : Rel m I L R LP rc ln qu lg := ⟨hS, hC, hH, hL, hG, hT⟩
  have hRc := hC.2.2
  have hkk := hI.2.2.2.1
  have hh := hI.2.2.2.2.1
  have hx2 := find_cnt hC hL hI x
  rw [hx] at hx2
  have hcl : c ∈ ln := lnAt_mem hx
  have hc := ((hL.2.2.2.2.2.1 c).mp hcl).1
  have ha : rc c ∈ LP := (hC.2.1.2.2 c hc).2
  refine Con_of (by decide +kernel) (Nat.le_of_ble_eq_true rfl) ?_
  refine J_eq (lv' := [(0, .ref (ka S 0 0)), (1, .int x)]) rfl rfl rfl ?_
  refine J_aload_n 0 rfl dX7_inLineByCounting_0 ?_
  refine gf_7_19 (n0 _) dX7_inLineByCounting_1 ?_
  refine J_iload_n 1 rfl dX7_inLineByCounting_4 ?_
  refine cv_7_217 (cells' := 0) (slots' := 0) dX7_inLineByCounting_5 (c_X3_atByCounting (lq := qu.map rc) (by rw [List.length_map, hL.2.2.1]; exact hL.2.1) (ln_LP hC hL).2 (by rw [List.length_map, hL.2.2.1]; exact hL.1) (arr_map hL.2.2.2.2.1 rfl)) (n2 _) ⟨by decide, by decide⟩ rfl rfl (by decide) (by decide) (Nat.le_of_ble_eq_true rfl) (fun _ _ r1 => ?_) (fun _ _ h => h.elim)
  obtain ⟨rfl, rfl⟩ := r1
  refine J_eq (st' := [va_rf ((qu.map rc).find? (fun b => decide (nI (cntA I (qu.map rc) b) = x)))]) rfl rfl rfl ?_
  refine J_topv (v' := .ref (rc c)) (by first | rfl | (rw [hx2]; rfl)) ?_
  refine cv_7_105 (i := 0) (cells' := 0) (slots' := 0) dX7_inLineByCounting_8 (c_X7_existing_s) ⟨by decide, by decide⟩ rfl rfl (by decide) (by decide) (Nat.le_of_ble_eq_true rfl) (fun _ _ r2 => ?_) (fun _ _ h => h.elim)
  obtain ⟨rfl, rfl⟩ := r2
  refine J_eq (st' := [.ref (rc c)]) rfl rfl rfl ?_
  refine gf_7_109 (n20 (by assumption)) dX7_inLineByCounting_11 ?_
  refine J_topeq (nI c) (by exact (hRc c hc).1.1) ?_
  exact J_ireturn rfl (by first | rfl | assumption | simp [kb_nar]) dX7_inLineByCounting_14 (⟨rfl, I, L, R, ln, qu, lg, rfl, hR, by omega⟩) (by omega) (by omega)

set_option maxRecDepth 20000 in
set_option maxHeartbeats 1000000 in
theorem c_X7_inLineByCounting_x {cy : Nat → ClassId} {S : Nat → Nat → Nat} {I : kI} {L : kL} {R : kRf} {LP : List Nat} {m : Mu} {rc : Nat → Nat} {ln qu : List Nat} {lg B : Nat} {x : Int32} (hR : Rel m I L R LP rc ln qu lg) (hI : Inv m B) (hB : B < 2 ^ 30) (hlg : lg < 2 ^ 30) (hx : lnAt ln x = none) : Con yX7_inLineByCounting cX7_inLineByCounting 2 (some .int) 7 1 6 cy [.ref (ka S 0 0), .int x] (wc cy S I L R LP) kNo (kTX "java/util/NoSuchElementException" cy S LP rc m) := by
  obtain ⟨hS, hC, hH, hL, hG, hT⟩ := hR
  have hR : Rel m I L R LP rc ln qu lg := ⟨hS, hC, hH, hL, hG, hT⟩
  have hRc := hC.2.2
  have hkk := hI.2.2.2.1
  have hh := hI.2.2.2.2.1
  have hx2 := find_cnt hC hL hI x
  rw [hx] at hx2
  refine Con_of (by decide +kernel) (Nat.le_of_ble_eq_true rfl) ?_
  refine J_eq (lv' := [(0, .ref (ka S 0 0)), (1, .int x)]) rfl rfl rfl ?_
  refine J_aload_n 0 rfl dX7_inLineByCounting_0 ?_
  refine gf_7_19 (n0 _) dX7_inLineByCounting_1 ?_
  refine J_iload_n 1 rfl dX7_inLineByCounting_4 ?_
  refine cv_7_217 (cells' := 0) (slots' := 0) dX7_inLineByCounting_5 (c_X3_atByCounting (lq := qu.map rc) (by rw [List.length_map, hL.2.2.1]; exact hL.2.1) (ln_LP hC hL).2 (by rw [List.length_map, hL.2.2.1]; exact hL.1) (arr_map hL.2.2.2.2.1 rfl)) (n2 _) ⟨by decide, by decide⟩ rfl rfl (by decide) (by decide) (Nat.le_of_ble_eq_true rfl) (fun _ _ r1 => ?_) (fun _ _ h => h.elim)
  obtain ⟨rfl, rfl⟩ := r1
  refine J_eq (st' := [va_rf ((qu.map rc).find? (fun b => decide (nI (cntA I (qu.map rc) b) = x)))]) rfl rfl rfl ?_
  refine J_topv (v' := .null) (by first | rfl | (rw [hx2]; rfl)) ?_
  exact cv_7_105 (i := 0) (cells' := 1) (slots' := 6) dX7_inLineByCounting_8 (c_X7_existing_n) ⟨by decide, by decide⟩ rfl rfl (by decide) (by decide) (Nat.le_of_ble_eq_true rfl) (fun _ _ h => h.elim) (fun E9 w9 h9 => by obtain ⟨rfl, rfl⟩ := h9; exact ⟨rfl, I, L, R, ln, qu, lg, rfl, hR, by omega⟩)

set_option maxRecDepth 20000 in
set_option maxHeartbeats 1000000 in
theorem l_X3_isSameByCounting {cy : Nat → ClassId} {S : Nat → Nat → Nat} {I : kI} {L : kL} {R : kRf} {LP : List Nat} {m : Mu} {rc : Nat → Nat} {ln qu : List Nat} {lg B : Nat} (hR : Rel m I L R LP rc ln qu lg) (hI : Inv m B) (hB : B < 2 ^ 30) (hlg : lg < 2 ^ 30) : ∀ (j k : Nat), k + j = ln.length → J yX3_isSameByCounting.cls yX3_isSameByCounting.name cX3_isSameByCounting 2 (some .boolean) 4 0 0 cy (kRet (some (.int (kb true))) (wc cy S I L R LP)) kF 2 [(0, .ref (ka S 2 0)), (1, .int (nI k))] [] (wc cy S I L R LP) 0 0 := by
  intro j
  induction j with
  | zero =>
    intro k hk
    have hk : k = ln.length := by omega
    subst hk
    obtain ⟨hS, hC, hH, hL, hG, hT⟩ := hR
    have hR : Rel m I L R LP rc ln qu lg := ⟨hS, hC, hH, hL, hG, hT⟩
    have hRc := hC.2.2
    have hkk := hI.2.2.2.1
    have hh := hI.2.2.2.2.1
    have hl24 := hL.2.1
    refine J_iload_n 1 rfl dX3_isSameByCounting_2 ?_
    refine J_aload_n 0 rfl dX3_isSameByCounting_3 ?_
    refine gf_3_20 (n2 _) dX3_isSameByCounting_4 ?_
    refine J_topeq (nI ln.length) (by exact hL.1) ?_
    refine J_icmp_ge 39 (by decide) dX3_isSameByCounting_7 (fun c1 => ?_) (fun c1 => ?_)
    rotate_left
    · exfalso
      have Nc1 : ¬ (ln.length ≤ ln.length) := fun q => c1 ((nI_leI (a := ln.length) (b := ln.length) (by omega) (by omega)).mpr q)
      omega
    have Nc1 : ln.length ≤ ln.length := (nI_leI (a := ln.length) (b := ln.length) (by omega) (by omega)).mp c1
    refine J_iconst (v := 1) (by decide) dX3_isSameByCounting_39 ?_
    exact J_ireturn rfl (by first | rfl | assumption | simp [kb_nar]) dX3_isSameByCounting_40 (⟨rfl, rfl⟩) (by omega) (by omega)
  | succ j ih =>
    intro k hk
    obtain ⟨hS, hC, hH, hL, hG, hT⟩ := hR
    have hR : Rel m I L R LP rc ln qu lg := ⟨hS, hC, hH, hL, hG, hT⟩
    have hRc := hC.2.2
    have hkk := hI.2.2.2.1
    have hh := hI.2.2.2.2.1
    have hl24 := hL.2.1
    have hkl : k < ln.length := by omega
    have hx : lnAt ln (nI k) = some ln[k] := by rw [lnAt_n (by omega), List.getElem?_eq_getElem hkl]
    have hx2 := find_cnt hC hL hI (nI k)
    rw [hx] at hx2
    have hx3 : lnAt (ln.map rc) (nI k) = some (rc ln[k]) := by rw [lnAt_map, hx]; rfl
    have hcl : ln[k] ∈ ln := List.getElem_mem hkl
    have hc := ((hL.2.2.2.2.2.1 _).mp hcl).1
    have ha : rc ln[k] ∈ LP := (hC.2.1.2.2 _ hc).2
    generalize ln[k] = c at *
    refine J_iload_n 1 rfl dX3_isSameByCounting_2 ?_
    refine J_aload_n 0 rfl dX3_isSameByCounting_3 ?_
    refine gf_3_20 (n2 _) dX3_isSameByCounting_4 ?_
    refine J_topeq (nI ln.length) (by exact hL.1) ?_
    refine J_icmp_ge 39 (by decide) dX3_isSameByCounting_7 (fun c1 => ?_) (fun c1 => ?_)
    · exfalso
      have Nc1 : ln.length ≤ k := (nI_leI (a := ln.length) (b := k) (by omega) (by omega)).mp c1
      omega
    have Nc1 : ¬ (ln.length ≤ k) := fun q => c1 ((nI_leI (a := ln.length) (b := k) (by omega) (by omega)).mpr q)
    refine J_aload_n 0 rfl dX3_isSameByCounting_10 ?_
    refine J_iload_n 1 rfl dX3_isSameByCounting_11 ?_
    refine cv_3_40 (cells' := 0) (slots' := 0) dX3_isSameByCounting_12 (c_X3_at (lo := ln.map rc) (by rw [List.length_map]; exact hL.2.1) (ln_LP hC hL).1 (by rw [List.length_map]; exact hL.1) (arr_map hL.2.2.2.1 rfl)) (n2 _) ⟨by decide, by decide⟩ rfl rfl (by decide) (by decide) (Nat.le_of_ble_eq_true rfl) (fun _ _ r2 => ?_) (fun _ _ h => h.elim)
    obtain ⟨rfl, rfl⟩ := r2
    refine J_eq (st' := [va_rf (lnAt (ln.map rc) (nI k))]) rfl rfl rfl ?_
    refine J_topv (v' := .ref (rc c)) (by first | rfl | (rw [hx3]; rfl)) ?_
    refine J_ifnull dX3_isSameByCounting_15 ?_
    refine J_aload_n 0 rfl dX3_isSameByCounting_18 ?_
    refine J_iload_n 1 rfl dX3_isSameByCounting_19 ?_
    refine cv_3_40 (cells' := 0) (slots' := 0) dX3_isSameByCounting_20 (c_X3_at (lo := ln.map rc) (by rw [List.length_map]; exact hL.2.1) (ln_LP hC hL).1 (by rw [List.length_map]; exact hL.1) (arr_map hL.2.2.2.1 rfl)) (n2 _) ⟨by decide, by decide⟩ rfl rfl (by decide) (by decide) (Nat.le_of_ble_eq_true rfl) (fun _ _ r3 => ?_) (fun _ _ h => h.elim)
    obtain ⟨rfl, rfl⟩ := r3
    refine J_eq (st' := [va_rf (lnAt (ln.map rc) (nI k))]) rfl rfl rfl ?_
    refine J_topv (v' := .ref (rc c)) (by first | rfl | (rw [hx3]; rfl)) ?_
    refine J_aload_n 0 rfl dX3_isSameByCounting_23 ?_
    refine J_iload_n 1 rfl dX3_isSameByCounting_24 ?_
    refine cv_3_44 (cells' := 0) (slots' := 0) dX3_isSameByCounting_25 (c_X3_atByCounting (lq := qu.map rc) (by rw [List.length_map, hL.2.2.1]; exact hL.2.1) (ln_LP hC hL).2 (by rw [List.length_map, hL.2.2.1]; exact hL.1) (arr_map hL.2.2.2.2.1 rfl)) (n2 _) ⟨by decide, by decide⟩ rfl rfl (by decide) (by decide) (Nat.le_of_ble_eq_true rfl) (fun _ _ r4 => ?_) (fun _ _ h => h.elim)
    obtain ⟨rfl, rfl⟩ := r4
    refine J_eq (st' := [va_rf ((qu.map rc).find? (fun b => decide (nI (cntA I (qu.map rc) b) = (nI k)))), .ref (rc c)]) rfl rfl rfl ?_
    refine J_topv (v' := .ref (rc c)) (by first | rfl | (rw [hx2]; rfl)) ?_
    refine J_acmp_eq (some (rc c)) (some (rc c)) 33 (by decide) dX3_isSameByCounting_28 (fun _ => ?_) (fun h => absurd rfl h)
    refine J_iinc (v := (nI (k + 1))) (lv' := [(0, .ref (ka S 2 0)), (1, .int (nI (k + 1)))]) 1 rfl (by exact nI_add k 1) (by decide) rfl dX3_isSameByCounting_33 ?_
    refine J_goto 2 (by decide) dX3_isSameByCounting_36 ?_
    refine J_sub (lv' := [(0, .ref (ka S 2 0)), (1, .int (nI (k + 1)))]) [0, 1] rfl ?_
    exact ih (k + 1) (by omega)

set_option maxRecDepth 20000 in
set_option maxHeartbeats 1000000 in
theorem c_X3_isSameByCounting {cy : Nat → ClassId} {S : Nat → Nat → Nat} {I : kI} {L : kL} {R : kRf} {LP : List Nat} {m : Mu} {rc : Nat → Nat} {ln qu : List Nat} {lg B : Nat} (hR : Rel m I L R LP rc ln qu lg) (hI : Inv m B) (hB : B < 2 ^ 30) (hlg : lg < 2 ^ 30) : Con yX3_isSameByCounting cX3_isSameByCounting 2 (some .boolean) 4 0 0 cy [.ref (ka S 2 0)] (wc cy S I L R LP) (kRet (some (.int (kb true))) (wc cy S I L R LP)) kF := by
  refine Con_of (by decide +kernel) (Nat.le_of_ble_eq_true rfl) ?_
  refine J_eq (lv' := [(0, .ref (ka S 2 0))]) rfl rfl rfl ?_
  refine J_iconst (v := 0) (by decide) dX3_isSameByCounting_0 ?_
  refine J_istore_n (lv' := [(0, .ref (ka S 2 0)), (1, .int 0)]) (by decide) rfl dX3_isSameByCounting_1 ?_
  refine J_eq (lv' := [(0, .ref (ka S 2 0)), (1, .int (nI 0))]) rfl rfl rfl ?_
  exact l_X3_isSameByCounting hR hI hB hlg ln.length 0 (by omega)

set_option maxRecDepth 20000 in
set_option maxHeartbeats 1000000 in
theorem l_X7_noWaitingCallCanBegin {cy : Nat → ClassId} {S : Nat → Nat → Nat} {L : kL} {R : kRf} {LP : List Nat} {m : Mu} {rc : Nat → Nat} {ln qu : List Nat} {lg B : Nat} (hI : Inv m B) (hB : B < 2 ^ 30) (hlg : lg < 2 ^ 30) : ∀ (j k : Nat) (I : kI), k + j = ln.length → Rel m I L R LP rc ln qu lg → (∀ i c, i < k → ln[i]? = some c → mCan m c = false) → J yX7_noWaitingCallCanBegin.cls yX7_noWaitingCallCanBegin.name cX7_noWaitingCallCanBegin 3 (some .boolean) 10 0 0 cy (fun r w' => r = some (.int (kb (!ln.any (fun c => mCan m c)))) ∧ ∃ I', w' = wc cy S I' L R LP ∧ Rel m I' L R LP rc ln qu lg) kF 2 [(0, .ref (ka S 0 0)), (1, .int (nI k))] [] (wc cy S I L R LP) 0 0 := by
  intro j
  induction j with
  | zero =>
    intro k I hk hR hno
    have hk : k = ln.length := by omega
    subst hk
    obtain ⟨hS, hC, hH, hL, hG, hT⟩ := hR
    have hR : Rel m I L R LP rc ln qu lg := ⟨hS, hC, hH, hL, hG, hT⟩
    have hRc := hC.2.2
    have hkk := hI.2.2.2.1
    have hh := hI.2.2.2.2.1
    have hl24 := hL.2.1
    have hall : (!ln.any (fun c => mCan m c)) = true := by
      rw [Bool.not_eq_true', List.any_eq_false]
      intro c hc
      obtain ⟨i, hi⟩ := List.mem_iff_getElem?.mp hc
      have := (List.getElem?_eq_some_iff.mp hi).1
      rw [hno i c this hi]
      decide
    refine J_iload_n 1 rfl dX7_noWaitingCallCanBegin_2 ?_
    refine J_aload_n 0 rfl dX7_noWaitingCallCanBegin_3 ?_
    refine gf_7_19 (n0 _) dX7_noWaitingCallCanBegin_4 ?_
    refine gf_7_213 (n2 _) dX7_noWaitingCallCanBegin_7 ?_
    refine J_topeq (nI ln.length) (by exact hL.1) ?_
    refine J_icmp_ge 60 (by decide) dX7_noWaitingCallCanBegin_10 (fun c1 => ?_) (fun c1 => ?_)
    rotate_left
    · exfalso
      have Nc1 : ¬ (ln.length ≤ ln.length) := fun q => c1 ((nI_leI (a := ln.length) (b := ln.length) (by omega) (by omega)).mpr q)
      omega
    have Nc1 : ln.length ≤ ln.length := (nI_leI (a := ln.length) (b := ln.length) (by omega) (by omega)).mp c1
    refine J_iconst (v := 1) (by decide) dX7_noWaitingCallCanBegin_60 ?_
    exact J_ireturn rfl (by first | rfl | assumption | simp [kb_nar]) dX7_noWaitingCallCanBegin_61 (⟨by rw [hall]; rfl, I, rfl, hR⟩) (by omega) (by omega)
  | succ j ih =>
    intro k I hk hR hno
    obtain ⟨hS, hC, hH, hL, hG, hT⟩ := hR
    have hR : Rel m I L R LP rc ln qu lg := ⟨hS, hC, hH, hL, hG, hT⟩
    have hRc := hC.2.2
    have hkk := hI.2.2.2.1
    have hh := hI.2.2.2.2.1
    have hl24 := hL.2.1
    have hkl : k < ln.length := by omega
    have hx : lnAt ln (nI k) = some ln[k] := by rw [lnAt_n (by omega), List.getElem?_eq_getElem hkl]
    have hg : ln[k]? = some ln[k] := List.getElem?_eq_getElem hkl
    have hx3 : lnAt (ln.map rc) (nI k) = some (rc ln[k]) := by rw [lnAt_map, hx]; rfl
    have hcl : ln[k] ∈ ln := List.getElem_mem hkl
    have hc := ((hL.2.2.2.2.2.1 _).mp hcl).1
    have ha : rc ln[k] ∈ LP := (hC.2.1.2.2 _ hc).2
    generalize ln[k] = c at *
    obtain ⟨⟨f, t, k1, k2, k3, k4, -⟩, -⟩ := hkk c hc
    have hbv : gBits (gWay (cAdj I) (mS m) t f) = mBits m (m.1 51 c) (m.1 52 c) := by rw [k1, k3, way_eq hS hI.2.1 k2 k4]; rfl
    by_cases hcn : mCan m c = true
    · have hany : (!ln.any (fun c => mCan m c)) = false := by
        rw [Bool.not_eq_false', List.any_eq_true]
        exact ⟨c, hcl, hcn⟩
      refine J_iload_n 1 rfl dX7_noWaitingCallCanBegin_2 ?_
      refine J_aload_n 0 rfl dX7_noWaitingCallCanBegin_3 ?_
      refine gf_7_19 (n0 _) dX7_noWaitingCallCanBegin_4 ?_
      refine gf_7_213 (n2 _) dX7_noWaitingCallCanBegin_7 ?_
      refine J_topeq (nI ln.length) (by exact hL.1) ?_
      refine J_icmp_ge 60 (by decide) dX7_noWaitingCallCanBegin_10 (fun c1 => ?_) (fun c1 => ?_)
      · exfalso
        have Nc1 : ln.length ≤ k := (nI_leI (a := ln.length) (b := k) (by omega) (by omega)).mp c1
        omega
      have Nc1 : ¬ (ln.length ≤ k) := fun q => c1 ((nI_leI (a := ln.length) (b := k) (by omega) (by omega)).mpr q)
      refine J_aload_n 0 rfl dX7_noWaitingCallCanBegin_13 ?_
      refine gf_7_19 (n0 _) dX7_noWaitingCallCanBegin_14 ?_
      refine J_iload_n 1 rfl dX7_noWaitingCallCanBegin_17 ?_
      refine cv_7_214 (cells' := 0) (slots' := 0) dX7_noWaitingCallCanBegin_18 (c_X3_at (lo := ln.map rc) (by rw [List.length_map]; exact hL.2.1) (ln_LP hC hL).1 (by rw [List.length_map]; exact hL.1) (arr_map hL.2.2.2.1 rfl)) (n2 _) ⟨by decide, by decide⟩ rfl rfl (by decide) (by decide) (Nat.le_of_ble_eq_true rfl) (fun _ _ r2 => ?_) (fun _ _ h => h.elim)
      obtain ⟨rfl, rfl⟩ := r2
      refine J_eq (st' := [va_rf (lnAt (ln.map rc) (nI k))]) rfl rfl rfl ?_
      refine J_topv (v' := .ref (rc c)) (by first | rfl | (rw [hx3]; rfl)) ?_
      refine J_astore_n (lv' := [(0, .ref (ka S 0 0)), (1, .int (nI k)), (2, .ref (rc c))]) (by decide) rfl dX7_noWaitingCallCanBegin_21 ?_
      refine J_aload_n 2 rfl dX7_noWaitingCallCanBegin_22 ?_
      refine J_ifnull dX7_noWaitingCallCanBegin_23 ?_
      refine J_aload_n 0 rfl dX7_noWaitingCallCanBegin_26 ?_
      refine gf_7_26 (n0 _) dX7_noWaitingCallCanBegin_27 ?_
      refine J_aload_n 2 rfl dX7_noWaitingCallCanBegin_30 ?_
      refine J_aload_n 0 rfl dX7_noWaitingCallCanBegin_31 ?_
      refine gf_7_10 (n0 _) dX7_noWaitingCallCanBegin_32 ?_
      refine J_aload_n 2 rfl dX7_noWaitingCallCanBegin_35 ?_
      refine gf_7_315 (n20 (by assumption)) dX7_noWaitingCallCanBegin_36 ?_
      refine J_topeq (nI f) (by exact (hC.2.2 c hc).1.2.1.trans k1) ?_
      refine J_aload_n 2 rfl dX7_noWaitingCallCanBegin_39 ?_
      refine gf_7_318 (n20 (by assumption)) dX7_noWaitingCallCanBegin_40 ?_
      refine J_topeq (nI t) (by exact (hC.2.2 c hc).1.2.2.1.trans k3) ?_
      refine cv_7_321 (cells' := 0) (slots' := 0) dX7_noWaitingCallCanBegin_43 (c_X1_membersOfWay hS.2.1 k4 k2) (n1 _) ⟨by decide, by decide⟩ rfl rfl (by decide) (by decide) (Nat.le_of_ble_eq_true rfl) (fun _ _ r3 => ?_) (fun _ _ h => h.elim)
      obtain ⟨I1, rfl, rfl, hf1⟩ := r3
      refine J_eq (st' := [.int (gBits (gWay (cAdj I) (mS m) t f)), .ref (rc c), .ref (ka S 3 0)]) rfl rfl rfl ?_
      refine J_topeq (mBits m (m.1 51 c) (m.1 52 c)) hbv ?_
      have hR1 := rel_f789 hR hf1
      have hcan := can_eq hR1.2.1 hR1.2.2.1 hI.1 hkk hc
      refine cv_7_324 (cells' := 0) (slots' := 0) dX7_noWaitingCallCanBegin_46 (c_X0_canTake (hR1.2.2.1.inLP hR1.2.1) ha) (n3 _) ⟨by decide, by decide⟩ rfl rfl (by decide) (by decide) (Nat.le_of_ble_eq_true rfl) (fun _ _ r4 => ?_) (fun _ _ h => h.elim)
      obtain ⟨rfl, rfl⟩ := r4
      refine J_eq (st' := [.int (kb (takF I1 R (rc c) (mBits m (m.1 51 c) (m.1 52 c))))]) rfl rfl rfl ?_
      refine J_topeq 1 (by rw [hcan, hcn]; rfl) ?_
      refine J_if_eq 54 (by decide) dX7_noWaitingCallCanBegin_49 (fun c5 => ?_) (fun c5 => ?_)
      · exact absurd c5 (by decide)
      refine J_iconst (v := 0) (by decide) dX7_noWaitingCallCanBegin_52 ?_
      exact J_ireturn rfl (by first | rfl | assumption | simp [kb_nar]) dX7_noWaitingCallCanBegin_53 (⟨by rw [hany]; rfl, I1, rfl, hR1⟩) (by omega) (by omega)
    · have hcn : mCan m c = false := by simpa using hcn
      refine J_iload_n 1 rfl dX7_noWaitingCallCanBegin_2 ?_
      refine J_aload_n 0 rfl dX7_noWaitingCallCanBegin_3 ?_
      refine gf_7_19 (n0 _) dX7_noWaitingCallCanBegin_4 ?_
      refine gf_7_213 (n2 _) dX7_noWaitingCallCanBegin_7 ?_
      refine J_topeq (nI ln.length) (by exact hL.1) ?_
      refine J_icmp_ge 60 (by decide) dX7_noWaitingCallCanBegin_10 (fun c1 => ?_) (fun c1 => ?_)
      · exfalso
        have Nc1 : ln.length ≤ k := (nI_leI (a := ln.length) (b := k) (by omega) (by omega)).mp c1
        omega
      have Nc1 : ¬ (ln.length ≤ k) := fun q => c1 ((nI_leI (a := ln.length) (b := k) (by omega) (by omega)).mpr q)
      refine J_aload_n 0 rfl dX7_noWaitingCallCanBegin_13 ?_
      refine gf_7_19 (n0 _) dX7_noWaitingCallCanBegin_14 ?_
      refine J_iload_n 1 rfl dX7_noWaitingCallCanBegin_17 ?_
      refine cv_7_214 (cells' := 0) (slots' := 0) dX7_noWaitingCallCanBegin_18 (c_X3_at (lo := ln.map rc) (by rw [List.length_map]; exact hL.2.1) (ln_LP hC hL).1 (by rw [List.length_map]; exact hL.1) (arr_map hL.2.2.2.1 rfl)) (n2 _) ⟨by decide, by decide⟩ rfl rfl (by decide) (by decide) (Nat.le_of_ble_eq_true rfl) (fun _ _ r2 => ?_) (fun _ _ h => h.elim)
      obtain ⟨rfl, rfl⟩ := r2
      refine J_eq (st' := [va_rf (lnAt (ln.map rc) (nI k))]) rfl rfl rfl ?_
      refine J_topv (v' := .ref (rc c)) (by first | rfl | (rw [hx3]; rfl)) ?_
      refine J_astore_n (lv' := [(0, .ref (ka S 0 0)), (1, .int (nI k)), (2, .ref (rc c))]) (by decide) rfl dX7_noWaitingCallCanBegin_21 ?_
      refine J_aload_n 2 rfl dX7_noWaitingCallCanBegin_22 ?_
      refine J_ifnull dX7_noWaitingCallCanBegin_23 ?_
      refine J_aload_n 0 rfl dX7_noWaitingCallCanBegin_26 ?_
      refine gf_7_26 (n0 _) dX7_noWaitingCallCanBegin_27 ?_
      refine J_aload_n 2 rfl dX7_noWaitingCallCanBegin_30 ?_
      refine J_aload_n 0 rfl dX7_noWaitingCallCanBegin_31 ?_
      refine gf_7_10 (n0 _) dX7_noWaitingCallCanBegin_32 ?_
      refine J_aload_n 2 rfl dX7_noWaitingCallCanBegin_35 ?_
      refine gf_7_315 (n20 (by assumption)) dX7_noWaitingCallCanBegin_36 ?_
      refine J_topeq (nI f) (by exact (hC.2.2 c hc).1.2.1.trans k1) ?_
      refine J_aload_n 2 rfl dX7_noWaitingCallCanBegin_39 ?_
      refine gf_7_318 (n20 (by assumption)) dX7_noWaitingCallCanBegin_40 ?_
      refine J_topeq (nI t) (by exact (hC.2.2 c hc).1.2.2.1.trans k3) ?_
      refine cv_7_321 (cells' := 0) (slots' := 0) dX7_noWaitingCallCanBegin_43 (c_X1_membersOfWay hS.2.1 k4 k2) (n1 _) ⟨by decide, by decide⟩ rfl rfl (by decide) (by decide) (Nat.le_of_ble_eq_true rfl) (fun _ _ r3 => ?_) (fun _ _ h => h.elim)
      obtain ⟨I1, rfl, rfl, hf1⟩ := r3
      refine J_eq (st' := [.int (gBits (gWay (cAdj I) (mS m) t f)), .ref (rc c), .ref (ka S 3 0)]) rfl rfl rfl ?_
      refine J_topeq (mBits m (m.1 51 c) (m.1 52 c)) hbv ?_
      have hR1 := rel_f789 hR hf1
      have hcan := can_eq hR1.2.1 hR1.2.2.1 hI.1 hkk hc
      refine cv_7_324 (cells' := 0) (slots' := 0) dX7_noWaitingCallCanBegin_46 (c_X0_canTake (hR1.2.2.1.inLP hR1.2.1) ha) (n3 _) ⟨by decide, by decide⟩ rfl rfl (by decide) (by decide) (Nat.le_of_ble_eq_true rfl) (fun _ _ r4 => ?_) (fun _ _ h => h.elim)
      obtain ⟨rfl, rfl⟩ := r4
      refine J_eq (st' := [.int (kb (takF I1 R (rc c) (mBits m (m.1 51 c) (m.1 52 c))))]) rfl rfl rfl ?_
      refine J_topeq 0 (by rw [hcan, hcn]; rfl) ?_
      refine J_if_eq 54 (by decide) dX7_noWaitingCallCanBegin_49 (fun c5 => ?_) (fun c5 => ?_)
      rotate_left
      · exact absurd (by decide) c5
      refine J_iinc (v := (nI (k + 1))) (lv' := [(0, .ref (ka S 0 0)), (1, .int (nI (k + 1))), (2, .ref (rc c))]) 1 rfl (by exact nI_add k 1) (by decide) rfl dX7_noWaitingCallCanBegin_54 ?_
      refine J_goto 2 (by decide) dX7_noWaitingCallCanBegin_57 ?_
      refine J_sub (lv' := [(0, .ref (ka S 0 0)), (1, .int (nI (k + 1)))]) [0, 1] rfl ?_
      refine ih (k + 1) _ (by omega) hR1 (fun i d hi hd => ?_)
      by_cases e : i = k
      · subst e; rw [hg] at hd; cases hd; exact hcn
      · exact hno i d (by omega) hd

set_option maxRecDepth 20000 in
set_option maxHeartbeats 1000000 in
theorem c_X7_noWaitingCallCanBegin {cy : Nat → ClassId} {S : Nat → Nat → Nat} {I : kI} {L : kL} {R : kRf} {LP : List Nat} {m : Mu} {rc : Nat → Nat} {ln qu : List Nat} {lg B : Nat} (hR : Rel m I L R LP rc ln qu lg) (hI : Inv m B) (hB : B < 2 ^ 30) (hlg : lg < 2 ^ 30) : Con yX7_noWaitingCallCanBegin cX7_noWaitingCallCanBegin 3 (some .boolean) 10 0 0 cy [.ref (ka S 0 0)] (wc cy S I L R LP) (fun r w' => r = some (.int (kb (!ln.any (fun c => mCan m c)))) ∧ ∃ I', w' = wc cy S I' L R LP ∧ Rel m I' L R LP rc ln qu lg) kF := by
  refine Con_of (by decide +kernel) (Nat.le_of_ble_eq_true rfl) ?_
  refine J_eq (lv' := [(0, .ref (ka S 0 0))]) rfl rfl rfl ?_
  refine J_iconst (v := 0) (by decide) dX7_noWaitingCallCanBegin_0 ?_
  refine J_istore_n (lv' := [(0, .ref (ka S 0 0)), (1, .int 0)]) (by decide) rfl dX7_noWaitingCallCanBegin_1 ?_
  refine J_eq (lv' := [(0, .ref (ka S 0 0)), (1, .int (nI 0))]) rfl rfl rfl ?_
  exact l_X7_noWaitingCallCanBegin hI hB hlg ln.length 0 I (by omega) hR (fun i c hi => absurd hi (by omega))

set_option maxRecDepth 20000 in
set_option maxHeartbeats 1000000 in
theorem c_X7_isInOrder {cy : Nat → ClassId} {S : Nat → Nat → Nat} {I : kI} {L : kL} {R : kRf} {LP : List Nat} {m : Mu} {rc : Nat → Nat} {ln qu : List Nat} {lg B : Nat} (hR : Rel m I L R LP rc ln qu lg) (hI : Inv m B) (hB : B < 2 ^ 30) (hlg : lg < 2 ^ 30) : Con yX7_isInOrder cX7_isInOrder 1 (some .boolean) 11 0 0 cy [.ref (ka S 0 0)] (wc cy S I L R LP) (fun r w' => r = some (.int (kb ((!ln.any (fun c => mCan m c)) && ((List.range (mC m)).all (fun c => !(mSpk m c && decide (m.1 56 c < nI (mFirst m c)))))))) ∧ RelX cy S LP rc m w') kF := by
  obtain ⟨hS, hC, hH, hL, hG, hT⟩ := hR
  have hR : Rel m I L R LP rc ln qu lg := ⟨hS, hC, hH, hL, hG, hT⟩
  have hRc := hC.2.2
  have hkk := hI.2.2.2.1
  have hh := hI.2.2.2.2.1
  cases h1 : (!ln.any (fun c => mCan m c))
  · skip
    refine Con_of (by decide +kernel) (Nat.le_of_ble_eq_true rfl) ?_
    refine J_eq (lv' := [(0, .ref (ka S 0 0))]) rfl rfl rfl ?_
    refine J_aload_n 0 rfl dX7_isInOrder_0 ?_
    refine cv_7_283 (cells' := 0) (slots' := 0) dX7_isInOrder_1 (c_X7_noWaitingCallCanBegin hR hI hB hlg) (n0 _) ⟨by decide, by decide⟩ rfl rfl (by decide) (by decide) (Nat.le_of_ble_eq_true rfl) (fun _ _ r1 => ?_) (fun _ _ h => h.elim)
    obtain ⟨rfl, I1, rfl, hR1⟩ := r1
    refine J_eq (st' := [.int (kb (!ln.any (fun c => mCan m c)))]) rfl rfl rfl ?_
    have hC1 := hR1.2.1
    have hH1 := hR1.2.2.1
    refine J_topeq 0 (by rw [h1]; rfl) ?_
    refine J_if_eq 51 (by decide) dX7_isInOrder_4 (fun c2 => ?_) (fun c2 => ?_)
    rotate_left
    · exact absurd (by decide) c2
    refine J_iconst (v := 0) (by decide) dX7_isInOrder_51 ?_
    exact J_ireturn rfl (by first | rfl | assumption | simp [kb_nar]) dX7_isInOrder_52 (⟨by simp [kb], I1, L, R, ln, qu, lg, rfl, hR1, by omega⟩) (by omega) (by omega)
  · cases h2 : ((List.range (mC m)).all (fun c => !(mSpk m c && decide (m.1 56 c < nI (mFirst m c)))))
    · skip
      refine Con_of (by decide +kernel) (Nat.le_of_ble_eq_true rfl) ?_
      refine J_eq (lv' := [(0, .ref (ka S 0 0))]) rfl rfl rfl ?_
      refine J_aload_n 0 rfl dX7_isInOrder_0 ?_
      refine cv_7_283 (cells' := 0) (slots' := 0) dX7_isInOrder_1 (c_X7_noWaitingCallCanBegin hR hI hB hlg) (n0 _) ⟨by decide, by decide⟩ rfl rfl (by decide) (by decide) (Nat.le_of_ble_eq_true rfl) (fun _ _ r1 => ?_) (fun _ _ h => h.elim)
      obtain ⟨rfl, I1, rfl, hR1⟩ := r1
      refine J_eq (st' := [.int (kb (!ln.any (fun c => mCan m c)))]) rfl rfl rfl ?_
      have hC1 := hR1.2.1
      have hH1 := hR1.2.2.1
      refine J_topeq 1 (by rw [h1]; rfl) ?_
      refine J_if_eq 51 (by decide) dX7_isInOrder_4 (fun c2 => ?_) (fun c2 => ?_)
      · exact absurd c2 (by decide)
      refine J_aload_n 0 rfl dX7_isInOrder_7 ?_
      refine gf_7_26 (n0 _) dX7_isInOrder_8 ?_
      refine cv_7_286 (cells' := 0) (slots' := 0) dX7_isInOrder_11 (c_X0_areAllAllowed (hH1.inLP hC1)) (n3 _) ⟨by decide, by decide⟩ rfl rfl (by decide) (by decide) (Nat.le_of_ble_eq_true rfl) (fun _ _ r3 => ?_) (fun _ _ h => h.elim)
      obtain ⟨rfl, rfl⟩ := r3
      refine J_eq (st' := [.int (kb (alwF I1 R))]) rfl rfl rfl ?_
      refine J_topeq 0 (by rw [alw_eq hR1 hI, h2]; rfl) ?_
      refine J_if_eq 51 (by decide) dX7_isInOrder_14 (fun c4 => ?_) (fun c4 => ?_)
      rotate_left
      · exact absurd (by decide) c4
      refine J_iconst (v := 0) (by decide) dX7_isInOrder_51 ?_
      exact J_ireturn rfl (by first | rfl | assumption | simp [kb_nar]) dX7_isInOrder_52 (⟨by simp [kb], I1, L, R, ln, qu, lg, rfl, hR1, by omega⟩) (by omega) (by omega)
    · skip
      refine Con_of (by decide +kernel) (Nat.le_of_ble_eq_true rfl) ?_
      refine J_eq (lv' := [(0, .ref (ka S 0 0))]) rfl rfl rfl ?_
      refine J_aload_n 0 rfl dX7_isInOrder_0 ?_
      refine cv_7_283 (cells' := 0) (slots' := 0) dX7_isInOrder_1 (c_X7_noWaitingCallCanBegin hR hI hB hlg) (n0 _) ⟨by decide, by decide⟩ rfl rfl (by decide) (by decide) (Nat.le_of_ble_eq_true rfl) (fun _ _ r1 => ?_) (fun _ _ h => h.elim)
      obtain ⟨rfl, I1, rfl, hR1⟩ := r1
      refine J_eq (st' := [.int (kb (!ln.any (fun c => mCan m c)))]) rfl rfl rfl ?_
      have hC1 := hR1.2.1
      have hH1 := hR1.2.2.1
      refine J_topeq 1 (by rw [h1]; rfl) ?_
      refine J_if_eq 51 (by decide) dX7_isInOrder_4 (fun c2 => ?_) (fun c2 => ?_)
      · exact absurd c2 (by decide)
      refine J_aload_n 0 rfl dX7_isInOrder_7 ?_
      refine gf_7_26 (n0 _) dX7_isInOrder_8 ?_
      refine cv_7_286 (cells' := 0) (slots' := 0) dX7_isInOrder_11 (c_X0_areAllAllowed (hH1.inLP hC1)) (n3 _) ⟨by decide, by decide⟩ rfl rfl (by decide) (by decide) (Nat.le_of_ble_eq_true rfl) (fun _ _ r3 => ?_) (fun _ _ h => h.elim)
      obtain ⟨rfl, rfl⟩ := r3
      refine J_eq (st' := [.int (kb (alwF I1 R))]) rfl rfl rfl ?_
      refine J_topeq 1 (by rw [alw_eq hR1 hI, h2]; rfl) ?_
      refine J_if_eq 51 (by decide) dX7_isInOrder_14 (fun c4 => ?_) (fun c4 => ?_)
      · exact absurd c4 (by decide)
      refine J_aload_n 0 rfl dX7_isInOrder_17 ?_
      refine gf_7_26 (n0 _) dX7_isInOrder_18 ?_
      refine cv_7_289 (cells' := 0) (slots' := 0) dX7_isInOrder_21 (c_X0_shareNoStation (hH1.inLP hC1)) (n3 _) ⟨by decide, by decide⟩ rfl rfl (by decide) (by decide) (Nat.le_of_ble_eq_true rfl) (fun _ _ r5 => ?_) (fun _ _ h => h.elim)
      obtain ⟨rfl, rfl⟩ := r5
      refine J_eq (st' := [.int (kb (noShF I1 R))]) rfl rfl rfl ?_
      refine J_topeq 1 (by rw [nosh_eq hR1 hI]; rfl) ?_
      refine J_if_eq 51 (by decide) dX7_isInOrder_24 (fun c6 => ?_) (fun c6 => ?_)
      · exact absurd c6 (by decide)
      refine J_aload_n 0 rfl dX7_isInOrder_27 ?_
      refine gf_7_19 (n0 _) dX7_isInOrder_28 ?_
      refine cv_7_292 (cells' := 0) (slots' := 0) dX7_isInOrder_31 (c_X3_isSameByCounting hR1 hI hB hlg) (n2 _) ⟨by decide, by decide⟩ rfl rfl (by decide) (by decide) (Nat.le_of_ble_eq_true rfl) (fun _ _ r7 => ?_) (fun _ _ h => h.elim)
      obtain ⟨rfl, rfl⟩ := r7
      refine J_eq (st' := [.int (kb true)]) rfl rfl rfl ?_
      refine J_topeq 1 (by rfl) ?_
      refine J_if_eq 51 (by decide) dX7_isInOrder_34 (fun c8 => ?_) (fun c8 => ?_)
      · exact absurd c8 (by decide)
      refine J_aload_n 0 rfl dX7_isInOrder_37 ?_
      refine gf_7_10 (n0 _) dX7_isInOrder_38 ?_
      refine cv_7_295 (cells' := 0) (slots' := 0) dX7_isInOrder_41 (c_X1_isSameByJoining hR1.1.2.1) (n1 _) ⟨by decide, by decide⟩ rfl rfl (by decide) (by decide) (Nat.le_of_ble_eq_true rfl) (fun _ _ r9 => ?_) (fun _ _ h => h.elim)
      obtain ⟨I2, rfl, rfl, hf2⟩ := r9
      refine J_eq (st' := [.int (kb true)]) rfl rfl rfl ?_
      have hR2 := rel_scr hR1 (fun k i h1 h2 _ h4 => hf2 k i h1 h2 h4)
      refine J_topeq 1 (by rfl) ?_
      refine J_if_eq 51 (by decide) dX7_isInOrder_44 (fun c10 => ?_) (fun c10 => ?_)
      · exact absurd c10 (by decide)
      refine J_iconst (v := 1) (by decide) dX7_isInOrder_47 ?_
      refine J_goto 52 (by decide) dX7_isInOrder_48 ?_
      exact J_ireturn rfl (by first | rfl | assumption | simp [kb_nar]) dX7_isInOrder_52 (⟨by simp [kb], I2, L, R, ln, qu, lg, rfl, hR2, by omega⟩) (by omega) (by omega)


