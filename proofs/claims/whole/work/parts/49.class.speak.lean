/-! the exchange: the walk through the line -/

set_option maxRecDepth 20000 in
set_option maxHeartbeats 1000000 in
theorem l_X7_letSpeak {cy : Nat → ClassId} {S : Nat → Nat → Nat} {LP : List Nat} {rc : Nat → Nat} {B0 : Nat} (hB : B0 + 4000 < 2 ^ 30) : ∀ (k q n : Nat) (I : kI) (L : kL) (R : kRf) (m : Mu) (ln qu : List Nat) (lg : Nat), q + k = 600 → n ≤ q → Rel m I L R LP rc ln qu lg → lg < 2 ^ 31 → Inv m (B0 + 6 * q) → J yX7_letSpeak.cls yX7_letSpeak.name cX7_letSpeak 5 none 10 0 0 cy (fun r w' => r = none ∧ RelX cy S LP rc (mT q m) w') kF 4 [(0, .ref (ka S 0 0)), (1, .int (nI (wcnt m q))), (2, .int (nI n))] [] (wc cy S I L R LP) 0 0 := by
  intro k
  induction k using Nat.strongRecOn with
  | ind k ih =>
    intro q n I L R m ln qu lg hq hn hR hlg hI
    have hB2 : B0 + 6 * q < 2 ^ 30 := by omega
    obtain ⟨hS, hC, hH, hL, hG, hT⟩ := hR
    have hR : Rel m I L R LP rc ln qu lg := ⟨hS, hC, hH, hL, hG, hT⟩
    have hlg := lg_lt hG hI.2.2.2.2.2.2.1 hB2 hlg
    have hkk := hI.2.2.2.1
    have hl24 := hL.2.1
    have hw31 : wcnt m q ≤ 150 := Nat.le_trans List.countP_le_length (by rw [List.length_range]; exact hI.2.2.1)
    have hat : lnAt (ln.map rc) (nI (wcnt m q)) = (ln[wcnt m q]?).map rc := by rw [lnAt_n (by omega), List.getElem?_map]
    cases hx : ln[wcnt m q]? with
    | none =>
      have ho := ln_out hI hL hx
      have he : mT q m = m := by
        rw [mT_skip hI (q' := 600) (by omega) (Nat.le_refl _) (fun p h1 h2 c hc hw => by have := ho c hc hw; omega)]
        exact mT_end (Nat.le_refl _)
      refine J_iload_n 2 rfl dX7_letSpeak_4 ?_
      refine J_sipush (v := 1000) (by decide) dX7_letSpeak_5 ?_
      refine J_icmp_ge 74 (by decide) dX7_letSpeak_8 (fun c1 => ?_) (fun c1 => ?_)
      · exfalso
        have Nc1 : 1000 ≤ n := (nI_leI (a := 1000) (b := n) (by omega) (by omega)).mp c1
        omega
      have Nc1 : ¬ (1000 ≤ n) := fun q => c1 ((nI_leI (a := 1000) (b := n) (by omega) (by omega)).mpr q)
      refine J_aload_n 0 rfl dX7_letSpeak_11 ?_
      refine gf_7_19 (n0 _) dX7_letSpeak_12 ?_
      refine J_iload_n 1 rfl dX7_letSpeak_15 ?_
      refine cv_7_214 (cells' := 0) (slots' := 0) dX7_letSpeak_16 (c_X3_at (lo := ln.map rc) (by rw [List.length_map]; omega) (ln_LP hC hL).1 (by rw [List.length_map]; exact hL.1) (arr_map hL.2.2.2.1 rfl)) (n2 _) ⟨by decide, by decide⟩ rfl rfl (by decide) (by decide) (Nat.le_of_ble_eq_true rfl) (fun _ _ r2 => ?_) (fun _ _ h => h.elim)
      obtain ⟨rfl, rfl⟩ := r2
      refine J_eq (st' := [va_rf (lnAt (ln.map rc) (nI (wcnt m q)))]) rfl rfl rfl ?_
      refine J_topv (v' := .null) (by first | rfl | (rw [hat, hx]; rfl)) ?_
      refine J_astore_nN (lv' := [(0, .ref (ka S 0 0)), (1, .int (nI (wcnt m q))), (2, .int (nI n)), (3, .null)]) (by decide) rfl dX7_letSpeak_19 ?_
      refine J_aload_nN 3 rfl dX7_letSpeak_20 ?_
      refine J_ifnonnullN dX7_letSpeak_21 ?_
      exact J_return rfl dX7_letSpeak_24 (⟨rfl, _, _, _, _, _, _, rfl, by rw [he]; exact hR, by omega⟩) (by omega) (by omega)
    | some c =>
      obtain ⟨hc, hw, hge, hlt⟩ := ln_at hI hL hx
      have ha : rc c ∈ LP := (hC.2.1.2.2 c hc).2
      obtain ⟨⟨f, t, k1, k2, k3, k4, -⟩, -⟩ := hkk c hc
      have hki := key_in hI hc
      obtain ⟨q', hq'⟩ : ∃ q' : Nat, key m c = q' := ⟨(key m c).toNat, by omega⟩
      have e1 : mT q m = mT (q' + 1) (mTurn q' m) := by
        rw [mT_skip hI (q' := q') (by omega) (by omega) (fun p h1 h2 d hd hwd y => by have := hlt d hd hwd (by omega); omega)]
        exact mT_step (by omega)
      have e2 : wcnt m q' = wcnt m q := wcnt_skip (by omega) (fun d hd hwd h => hlt d hd hwd (by omega))
      have hbv : gBits (gWay (cAdj I) (mS m) t f) = mBits m (m.1 51 c) (m.1 52 c) := by rw [k1, k3, way_eq hS hI.2.1 k2 k4]; rfl
      by_cases hcn : mCan m c = true
      · have e3 := turn_yes hI (q := q') (by omega) hc hw hq' hcn
        have ht : mTak m c (mBits m (m.1 51 c) (m.1 52 c)) = true := by unfold mCan at hcn; simp only [Bool.and_eq_true] at hcn; exact hcn.2
        have e4 := begin_cnt hI hc hw ht hq'
        rw [e1, e3, ← e2, ← e4]
        refine J_iload_n 2 rfl dX7_letSpeak_4 ?_
        refine J_sipush (v := 1000) (by decide) dX7_letSpeak_5 ?_
        refine J_icmp_ge 74 (by decide) dX7_letSpeak_8 (fun c1 => ?_) (fun c1 => ?_)
        · exfalso
          have Nc1 : 1000 ≤ n := (nI_leI (a := 1000) (b := n) (by omega) (by omega)).mp c1
          omega
        have Nc1 : ¬ (1000 ≤ n) := fun q => c1 ((nI_leI (a := 1000) (b := n) (by omega) (by omega)).mpr q)
        refine J_aload_n 0 rfl dX7_letSpeak_11 ?_
        refine gf_7_19 (n0 _) dX7_letSpeak_12 ?_
        refine J_iload_n 1 rfl dX7_letSpeak_15 ?_
        refine J_topeq (nI (wcnt m q)) (by rw [e4, e2]) ?_
        refine cv_7_214 (cells' := 0) (slots' := 0) dX7_letSpeak_16 (c_X3_at (lo := ln.map rc) (by rw [List.length_map]; omega) (ln_LP hC hL).1 (by rw [List.length_map]; exact hL.1) (arr_map hL.2.2.2.1 rfl)) (n2 _) ⟨by decide, by decide⟩ rfl rfl (by decide) (by decide) (Nat.le_of_ble_eq_true rfl) (fun _ _ r2 => ?_) (fun _ _ h => h.elim)
        obtain ⟨rfl, rfl⟩ := r2
        refine J_eq (st' := [va_rf (lnAt (ln.map rc) (nI (wcnt m q)))]) rfl rfl rfl ?_
        refine J_topv (v' := .ref (rc c)) (by first | rfl | (rw [hat, hx]; rfl)) ?_
        refine J_astore_n (lv' := [(0, .ref (ka S 0 0)), (1, .int (nI (wcnt (mTake (mRoom (mClear m (mBits m (m.1 51 c) (m.1 52 c))) c) c (mBits m (m.1 51 c) (m.1 52 c))) (q' + 1)))), (2, .int (nI n)), (3, .ref (rc c))]) (by decide) rfl dX7_letSpeak_19 ?_
        refine J_aload_n 3 rfl dX7_letSpeak_20 ?_
        refine J_ifnonnull 25 (by decide) dX7_letSpeak_21 ?_
        refine J_aload_n 0 rfl dX7_letSpeak_25 ?_
        refine gf_7_10 (n0 _) dX7_letSpeak_26 ?_
        refine J_aload_n 3 rfl dX7_letSpeak_29 ?_
        refine gf_7_315 (n20 (by assumption)) dX7_letSpeak_30 ?_
        refine J_topeq (nI f) (by exact (hC.2.2 c hc).1.2.1.trans k1) ?_
        refine J_aload_n 3 rfl dX7_letSpeak_33 ?_
        refine gf_7_318 (n20 (by assumption)) dX7_letSpeak_34 ?_
        refine J_topeq (nI t) (by exact (hC.2.2 c hc).1.2.2.1.trans k3) ?_
        refine cv_7_321 (cells' := 0) (slots' := 0) dX7_letSpeak_37 (c_X1_membersOfWay hS.2.1 k4 k2) (n1 _) ⟨by decide, by decide⟩ rfl rfl (by decide) (by decide) (Nat.le_of_ble_eq_true rfl) (fun _ _ r3 => ?_) (fun _ _ h => h.elim)
        obtain ⟨I1, rfl, rfl, hf1⟩ := r3
        refine J_eq (st' := [.int (gBits (gWay (cAdj I) (mS m) t f))]) rfl rfl rfl ?_
        refine J_topeq (mBits m (m.1 51 c) (m.1 52 c)) hbv ?_
        have hR1 := rel_f789 hR hf1
        have hcan := can_eq hR1.2.1 hR1.2.2.1 hI.1 hkk hc
        refine J_istore (lv' := [(0, .ref (ka S 0 0)), (1, .int (nI (wcnt (mTake (mRoom (mClear m (mBits m (m.1 51 c) (m.1 52 c))) c) c (mBits m (m.1 51 c) (m.1 52 c))) (q' + 1)))), (2, .int (nI n)), (3, .ref (rc c)), (4, .int (mBits m (m.1 51 c) (m.1 52 c)))]) (by decide) rfl dX7_letSpeak_40 ?_
        refine J_aload_n 0 rfl dX7_letSpeak_42 ?_
        refine gf_7_26 (n0 _) dX7_letSpeak_43 ?_
        refine J_aload_n 3 rfl dX7_letSpeak_46 ?_
        refine J_iload 4 rfl dX7_letSpeak_47 ?_
        refine cv_7_324 (cells' := 0) (slots' := 0) dX7_letSpeak_49 (c_X0_canTake (hR1.2.2.1.inLP hR1.2.1) ha) (n3 _) ⟨by decide, by decide⟩ rfl rfl (by decide) (by decide) (Nat.le_of_ble_eq_true rfl) (fun _ _ r4 => ?_) (fun _ _ h => h.elim)
        obtain ⟨rfl, rfl⟩ := r4
        refine J_eq (st' := [.int (kb (takF I1 R (rc c) (mBits m (m.1 51 c) (m.1 52 c))))]) rfl rfl rfl ?_
        refine J_topeq 1 (by rw [hcan, hcn]; rfl) ?_
        refine J_if_eq 65 (by decide) dX7_letSpeak_52 (fun c5 => ?_) (fun c5 => ?_)
        · exact absurd c5 (by decide)
        refine J_aload_n 0 rfl dX7_letSpeak_55 ?_
        refine J_aload_n 3 rfl dX7_letSpeak_56 ?_
        refine J_iload 4 rfl dX7_letSpeak_57 ?_
        refine cv_7_328 (cells' := 0) (slots' := 0) dX7_letSpeak_59 (c_X7_begin (c := c) hR1 hI (by omega) hlg hc hw) (n0 _) ⟨by decide, by decide⟩ rfl rfl (by decide) (by decide) (Nat.le_of_ble_eq_true rfl) (fun _ _ r6 => ?_) (fun _ _ h => h.elim)
        obtain ⟨rfl, I2, L2, R2, ln2, qu2, lg2, rfl, hR2, hl2⟩ := r6
        refine J_eq (st' := []) rfl rfl rfl ?_
        refine J_goto 68 (by decide) dX7_letSpeak_62 ?_
        refine J_iinc (v := (nI (n + 1))) (lv' := [(0, .ref (ka S 0 0)), (1, .int (nI (wcnt (mTake (mRoom (mClear m (mBits m (m.1 51 c) (m.1 52 c))) c) c (mBits m (m.1 51 c) (m.1 52 c))) (q' + 1)))), (2, .int (nI (n + 1))), (3, .ref (rc c)), (4, .int (mBits m (m.1 51 c) (m.1 52 c)))]) 2 rfl (by exact nI_add n 1) (by decide) rfl dX7_letSpeak_68 ?_
        refine J_goto 4 (by decide) dX7_letSpeak_71 ?_
        refine J_sub (lv' := [(0, .ref (ka S 0 0)), (1, .int (nI (wcnt (mTake (mRoom (mClear m (mBits m (m.1 51 c) (m.1 52 c))) c) c (mBits m (m.1 51 c) (m.1 52 c))) (q' + 1)))), (2, .int (nI (n + 1)))]) [0, 1, 2] rfl ?_
        exact ih (600 - (q' + 1)) (by omega) (q' + 1) (n + 1) _ _ _ _ _ _ _ (by omega) (by omega) hR2 hl2 ((begin_inv hI (by omega) hc hw).mono (by omega))
      · have hcn : mCan m c = false := by simpa using hcn
        have e3 := turn_no hI (q := q') (by omega) hc hq' hcn
        have e4 := wcnt_next hI hc hw hq'
        rw [e2] at e4
        rw [e1, e3]
        refine J_iload_n 2 rfl dX7_letSpeak_4 ?_
        refine J_sipush (v := 1000) (by decide) dX7_letSpeak_5 ?_
        refine J_icmp_ge 74 (by decide) dX7_letSpeak_8 (fun c1 => ?_) (fun c1 => ?_)
        · exfalso
          have Nc1 : 1000 ≤ n := (nI_leI (a := 1000) (b := n) (by omega) (by omega)).mp c1
          omega
        have Nc1 : ¬ (1000 ≤ n) := fun q => c1 ((nI_leI (a := 1000) (b := n) (by omega) (by omega)).mpr q)
        refine J_aload_n 0 rfl dX7_letSpeak_11 ?_
        refine gf_7_19 (n0 _) dX7_letSpeak_12 ?_
        refine J_iload_n 1 rfl dX7_letSpeak_15 ?_
        refine cv_7_214 (cells' := 0) (slots' := 0) dX7_letSpeak_16 (c_X3_at (lo := ln.map rc) (by rw [List.length_map]; omega) (ln_LP hC hL).1 (by rw [List.length_map]; exact hL.1) (arr_map hL.2.2.2.1 rfl)) (n2 _) ⟨by decide, by decide⟩ rfl rfl (by decide) (by decide) (Nat.le_of_ble_eq_true rfl) (fun _ _ r2 => ?_) (fun _ _ h => h.elim)
        obtain ⟨rfl, rfl⟩ := r2
        refine J_eq (st' := [va_rf (lnAt (ln.map rc) (nI (wcnt m q)))]) rfl rfl rfl ?_
        refine J_topv (v' := .ref (rc c)) (by first | rfl | (rw [hat, hx]; rfl)) ?_
        refine J_astore_n (lv' := [(0, .ref (ka S 0 0)), (1, .int (nI (wcnt m q))), (2, .int (nI n)), (3, .ref (rc c))]) (by decide) rfl dX7_letSpeak_19 ?_
        refine J_aload_n 3 rfl dX7_letSpeak_20 ?_
        refine J_ifnonnull 25 (by decide) dX7_letSpeak_21 ?_
        refine J_aload_n 0 rfl dX7_letSpeak_25 ?_
        refine gf_7_10 (n0 _) dX7_letSpeak_26 ?_
        refine J_aload_n 3 rfl dX7_letSpeak_29 ?_
        refine gf_7_315 (n20 (by assumption)) dX7_letSpeak_30 ?_
        refine J_topeq (nI f) (by exact (hC.2.2 c hc).1.2.1.trans k1) ?_
        refine J_aload_n 3 rfl dX7_letSpeak_33 ?_
        refine gf_7_318 (n20 (by assumption)) dX7_letSpeak_34 ?_
        refine J_topeq (nI t) (by exact (hC.2.2 c hc).1.2.2.1.trans k3) ?_
        refine cv_7_321 (cells' := 0) (slots' := 0) dX7_letSpeak_37 (c_X1_membersOfWay hS.2.1 k4 k2) (n1 _) ⟨by decide, by decide⟩ rfl rfl (by decide) (by decide) (Nat.le_of_ble_eq_true rfl) (fun _ _ r3 => ?_) (fun _ _ h => h.elim)
        obtain ⟨I1, rfl, rfl, hf1⟩ := r3
        refine J_eq (st' := [.int (gBits (gWay (cAdj I) (mS m) t f))]) rfl rfl rfl ?_
        refine J_topeq (mBits m (m.1 51 c) (m.1 52 c)) hbv ?_
        have hR1 := rel_f789 hR hf1
        have hcan := can_eq hR1.2.1 hR1.2.2.1 hI.1 hkk hc
        refine J_istore (lv' := [(0, .ref (ka S 0 0)), (1, .int (nI (wcnt m q))), (2, .int (nI n)), (3, .ref (rc c)), (4, .int (mBits m (m.1 51 c) (m.1 52 c)))]) (by decide) rfl dX7_letSpeak_40 ?_
        refine J_aload_n 0 rfl dX7_letSpeak_42 ?_
        refine gf_7_26 (n0 _) dX7_letSpeak_43 ?_
        refine J_aload_n 3 rfl dX7_letSpeak_46 ?_
        refine J_iload 4 rfl dX7_letSpeak_47 ?_
        refine cv_7_324 (cells' := 0) (slots' := 0) dX7_letSpeak_49 (c_X0_canTake (hR1.2.2.1.inLP hR1.2.1) ha) (n3 _) ⟨by decide, by decide⟩ rfl rfl (by decide) (by decide) (Nat.le_of_ble_eq_true rfl) (fun _ _ r4 => ?_) (fun _ _ h => h.elim)
        obtain ⟨rfl, rfl⟩ := r4
        refine J_eq (st' := [.int (kb (takF I1 R (rc c) (mBits m (m.1 51 c) (m.1 52 c))))]) rfl rfl rfl ?_
        refine J_topeq 0 (by rw [hcan, hcn]; rfl) ?_
        refine J_if_eq 65 (by decide) dX7_letSpeak_52 (fun c5 => ?_) (fun c5 => ?_)
        rotate_left
        · exact absurd (by decide) c5
        refine J_iinc (v := (nI (wcnt m q + 1))) (lv' := [(0, .ref (ka S 0 0)), (1, .int (nI (wcnt m q + 1))), (2, .int (nI n)), (3, .ref (rc c)), (4, .int (mBits m (m.1 51 c) (m.1 52 c)))]) 1 rfl (by exact nI_add (wcnt m q) 1) (by decide) rfl dX7_letSpeak_65 ?_
        refine J_iinc (v := (nI (n + 1))) (lv' := [(0, .ref (ka S 0 0)), (1, .int (nI (wcnt m q + 1))), (2, .int (nI (n + 1))), (3, .ref (rc c)), (4, .int (mBits m (m.1 51 c) (m.1 52 c)))]) 2 rfl (by exact nI_add n 1) (by decide) rfl dX7_letSpeak_68 ?_
        refine J_goto 4 (by decide) dX7_letSpeak_71 ?_
        rw [← e4]
        refine J_sub (lv' := [(0, .ref (ka S 0 0)), (1, .int (nI (wcnt m (q' + 1)))), (2, .int (nI (n + 1)))]) [0, 1, 2] rfl ?_
        exact ih (600 - (q' + 1)) (by omega) (q' + 1) (n + 1) _ _ _ _ _ _ _ (by omega) (by omega) hR1 (by omega) (hI.mono (by omega))

set_option maxRecDepth 20000 in
set_option maxHeartbeats 1000000 in
theorem c_X7_letSpeak {cy : Nat → ClassId} {S : Nat → Nat → Nat} {I : kI} {L : kL} {R : kRf} {LP : List Nat} {m : Mu} {rc : Nat → Nat} {ln qu : List Nat} {lg B : Nat} (hR : Rel m I L R LP rc ln qu lg) (hI : Inv m B) (hB : B + 4000 < 2 ^ 30) (hlg : lg < 2 ^ 30) : Con yX7_letSpeak cX7_letSpeak 5 none 10 0 0 cy [.ref (ka S 0 0)] (wc cy S I L R LP) (fun r w' => r = none ∧ RelX cy S LP rc (mSpeak m) w') kF := by
  refine Con_of (by decide +kernel) (Nat.le_of_ble_eq_true rfl) ?_
  refine J_eq (lv' := [(0, .ref (ka S 0 0))]) rfl rfl rfl ?_
  refine J_iconst (v := 0) (by decide) dX7_letSpeak_0 ?_
  refine J_istore_n (lv' := [(0, .ref (ka S 0 0)), (1, .int 0)]) (by decide) rfl dX7_letSpeak_1 ?_
  refine J_iconst (v := 0) (by decide) dX7_letSpeak_2 ?_
  refine J_istore_n (lv' := [(0, .ref (ka S 0 0)), (1, .int 0), (2, .int 0)]) (by decide) rfl dX7_letSpeak_3 ?_
  have e0 : wcnt m 0 = 0 := by
    refine List.countP_eq_zero.mpr fun x hx => ?_
    have := key_in hI (List.mem_range.mp hx)
    simp
    intro _
    omega
  refine J_eq (lv' := [(0, .ref (ka S 0 0)), (1, .int (nI (wcnt m 0))), (2, .int (nI 0))]) rfl (by rw [e0]; rfl) rfl ?_
  exact l_X7_letSpeak hB 600 0 0 I L R m ln qu lg (by omega) (by omega) hR (by omega) hI

