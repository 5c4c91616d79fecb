/-! the exchange: a call begins -/

set_option maxRecDepth 20000 in
set_option maxHeartbeats 1000000 in
theorem c_X7_countFirstBeginning {cy : Nat → ClassId} {S : Nat → Nat → Nat} {I : kI} {L : kL} {R : kRf} {LP : List Nat} {a : Nat} (ha : a ∈ LP) : Con yX7_countFirstBeginning cX7_countFirstBeginning 2 none 0 0 0 cy [.ref (ka S 0 0), .ref a] (wc cy S I L R LP) (kRet none (wc cy S (cfI I a) (cfL I L a) R LP)) kF := by
  refine Con_of (by decide +kernel) (Nat.le_of_ble_eq_true rfl) ?_
  refine J_eq (lv' := [(0, .ref (ka S 0 0)), (1, .ref a)]) rfl rfl rfl ?_
  refine J_aload_n 1 rfl dX7_countFirstBeginning_0 ?_
  refine gf_7_358 (n20 (by assumption)) dX7_countFirstBeginning_1 ?_
  refine J_if_ne 41 (by decide) dX7_countFirstBeginning_4 (fun c1 => ?_) (fun c1 => ?_)
  · skip
    exact J_return rfl dX7_countFirstBeginning_41 (⟨rfl, by unfold cfI cfL; first | (rw [if_pos (by assumption), if_pos (by assumption)]; rfl) | (rw [if_neg (by assumption), if_neg (by assumption)])⟩) (by omega) (by omega)
  · skip
    refine J_aload_n 1 rfl dX7_countFirstBeginning_7 ?_
    refine J_iconst (v := 1) (by decide) dX7_countFirstBeginning_8 ?_
    refine pf_7_358 (by first | assumption | decide | simp) (by first | assumption | decide | simp) (n20 (by assumption)) dX7_countFirstBeginning_9 ?_
    refine J_aload_n 0 rfl dX7_countFirstBeginning_12 ?_
    refine J_dup rfl dX7_countFirstBeginning_13 ?_
    refine gf_7_267 (n0 _) dX7_countFirstBeginning_14 ?_
    refine J_iconst (v := 1) (by decide) dX7_countFirstBeginning_17 ?_
    refine J_iadd dX7_countFirstBeginning_18 ?_
    refine pf_7_267 (n0 _) dX7_countFirstBeginning_19 ?_
    refine J_aload_n 0 rfl dX7_countFirstBeginning_22 ?_
    refine J_dup rfl dX7_countFirstBeginning_23 ?_
    refine gf_7_275 (n0 _) dX7_countFirstBeginning_24 ?_
    refine J_aload_n 0 rfl dX7_countFirstBeginning_27 ?_
    refine gf_7_171 (n0 _) dX7_countFirstBeginning_28 ?_
    refine J_aload_n 1 rfl dX7_countFirstBeginning_31 ?_
    refine gf_7_361 (n20 (by assumption)) dX7_countFirstBeginning_32 ?_
    refine J_topeq (I 20 a 3) (by simp [ku]) ?_
    refine J_isub dX7_countFirstBeginning_35 ?_
    refine J_i2l dX7_countFirstBeginning_36 ?_
    refine J_ladd dX7_countFirstBeginning_37 ?_
    refine pf_7_275 (n0 _) dX7_countFirstBeginning_38 ?_
    exact J_return rfl dX7_countFirstBeginning_41 (⟨rfl, by unfold cfI cfL; first | (rw [if_pos (by assumption), if_pos (by assumption)]; rfl) | (rw [if_neg (by assumption), if_neg (by assumption)])⟩) (by omega) (by omega)

set_option maxRecDepth 20000 in
set_option maxHeartbeats 1000000 in
theorem lt_X7_begin {cy : Nat → ClassId} {S : Nat → Nat → Nat} {I : kI} {L : kL} {R : kRf} {LP : List Nat} {m : Mu} {rc : Nat → Nat} {ln qu : List Nat} {lg B : Nat} {c : Nat} {v : Int32} (hR : Rel m I L R LP rc ln qu lg) (hI : Inv m B) (hB : B < 2 ^ 30) (hlg : lg < 2 ^ 30) (hc : c < mC m) (ha : rc c ∈ LP) (hw : mWait m c = true) (hf : mFree m c ≠ 3) (hd : ∀ i, i < mC m → mSpk m i = true → m.1 57 i &&& v = 0) : J yX7_begin.cls yX7_begin.name cX7_begin 5 none 7 0 0 cy (fun r w' => r = none ∧ RelX cy S LP rc (mTake m c v) w') kF 73 [(0, .ref (ka S 0 0)), (1, .ref (rc c)), (2, .int v)] [] (wc cy S I L R LP) 0 0 := by
  obtain ⟨hS, hC, hH, hL, hG, hT⟩ := hR
  have hR : Rel m I L R LP rc ln qu lg := ⟨hS, hC, hH, hL, hG, hT⟩
  have hRc := hC.2.2
  have hkk := hI.2.2.2.1
  have hh := hI.2.2.2.2.1
  obtain ⟨⟨s, s', k1, k2, -⟩, -⟩ := hkk c hc
  obtain ⟨hf3, hfn⟩ := free_none hf
  have hcl : c ∈ ln := (hL.2.2.2.2.2.1 c).mpr ⟨hc, hw⟩
  have hcq : c ∈ qu := (hL.2.2.2.2.2.2.1 c).mpr hcl
  have hl24 := hL.2.1
  have hql := hL.2.2.1
  refine J_aload_n 0 rfl dX7_begin_73 ?_
  refine gf_7_19 (n0 _) dX7_begin_74 ?_
  refine J_aload_n 1 rfl dX7_begin_77 ?_
  refine cv_7_168 (cells' := 0) (slots' := 0) dX7_begin_78 (c_X3_leave (lo := ln.map rc) (lq := qu.map rc) (a := rc c) (by rw [List.length_map]; omega) (ln_LP hC hL).1 (by rw [List.length_map]; exact hL.1) (arr_map hL.2.2.2.1 rfl) (by rw [List.length_map]; omega) (ln_LP hC hL).2 (by rw [List.length_map, hql]; exact hL.1) (arr_map hL.2.2.2.2.1 rfl) (List.mem_map_of_mem hcl) (List.mem_map_of_mem hcq)) (n2 _) ⟨by decide, by decide⟩ rfl rfl (by decide) (by decide) (Nat.le_of_ble_eq_true rfl) (fun _ _ r1 => ?_) (fun _ _ h => h.elim)
  obtain ⟨R1, rfl, rfl, j1, j2, j3⟩ := r1
  refine J_eq (st' := []) rfl rfl rfl ?_
  have hRt := rel_take (v := v) (s := s) hR hI hB hc hw hf hd k1 k2 j1 j2 j3
  have hT1 := hRt.2.2.2.2.2
  have hG1 := hRt.2.2.2.2.1
  have hC1 := hRt.2.1
  have e14 : ∀ h, R1 14 0 h = R 14 0 h := fun h => by rw [j3 14 0 (pair_ne (by decide)) (pair_ne (by decide))]
  have hsp1 : inLP R1 14 3 LP := fun j a h1 h2 => hH.inLP hC j a h1 ((e14 j).symm.trans h2)
  have hfr : freeF (ku I 2 0 2 (nI ((ln.map rc).length - 1))) R1 (rc c) = nI (mFree m c) := by
    have e := free_eq hC hH hc
    rw [if_neg hf] at e
    rw [← e]
    unfold freeF
    rw [e14, e14, e14]
    rfl
  refine J_aload_n 0 rfl dX7_begin_81 ?_
  refine gf_7_26 (n0 _) dX7_begin_82 ?_
  refine J_aload_n 0 rfl dX7_begin_85 ?_
  refine gf_7_26 (n0 _) dX7_begin_86 ?_
  refine J_aload_n 1 rfl dX7_begin_89 ?_
  refine cv_7_335 (cells' := 0) (slots' := 0) dX7_begin_90 (c_X0_freeFor hsp1 ha) (n3 _) ⟨by decide, by decide⟩ rfl rfl (by decide) (by decide) (Nat.le_of_ble_eq_true rfl) (fun _ _ r2 => ?_) (fun _ _ h => h.elim)
  obtain ⟨rfl, rfl⟩ := r2
  refine J_eq (st' := [.int (freeF (ku I 2 0 2 (nI ((ln.map rc).length - 1))) R1 (rc c)), .ref (ka S 3 0)]) rfl rfl rfl ?_
  refine J_topeq (nI (mFree m c)) hfr ?_
  refine J_aload_n 1 rfl dX7_begin_93 ?_
  refine cv_7_342 (cells' := 0) (slots' := 0) dX7_begin_94 (c_X0_give (h := mFree m c) ha hf3) (n3 _) ⟨by decide, by decide⟩ rfl rfl (by decide) (by decide) (Nat.le_of_ble_eq_true rfl) (fun _ _ r3 => ?_) (fun _ _ h => h.elim)
  obtain ⟨rfl, rfl⟩ := r3
  refine J_eq (st' := []) rfl rfl rfl ?_
  refine J_aload_n 1 rfl dX7_begin_97 ?_
  refine J_bipush (v := 115) (by decide) dX7_begin_98 ?_
  refine pf_7_161 (by first | assumption | decide | simp) (by first | assumption | decide | simp) (n20 (by assumption)) dX7_begin_100 ?_
  refine J_aload_n 1 rfl dX7_begin_103 ?_
  refine J_iload_n 2 rfl dX7_begin_104 ?_
  refine pf_7_346 (n20 (by assumption)) dX7_begin_105 ?_
  refine J_aload_n 1 rfl dX7_begin_108 ?_
  refine J_aload_n 0 rfl dX7_begin_109 ?_
  refine gf_7_349 (n0 _) dX7_begin_110 ?_
  refine J_topeq (I 0 0 7) (by rfl) ?_
  refine pf_7_352 (n20 (by assumption)) dX7_begin_113 ?_
  refine J_aload_n 0 rfl dX7_begin_116 ?_
  refine J_dup rfl dX7_begin_117 ?_
  refine gf_7_349 (n0 _) dX7_begin_118 ?_
  refine J_topeq (I 0 0 7) (by rfl) ?_
  refine J_iconst (v := 1) (by decide) dX7_begin_121 ?_
  refine J_iadd dX7_begin_122 ?_
  refine pf_7_349 (n0 _) dX7_begin_123 ?_
  refine J_aload_n 0 rfl dX7_begin_126 ?_
  refine J_aload_n 1 rfl dX7_begin_127 ?_
  refine cv_7_355 (cells' := 0) (slots' := 0) dX7_begin_128 (c_X7_countFirstBeginning (I := (tkI0 I (rc c) ((ln.map rc).length - 1) (nI (mFree m c)) v)) ha) (n0 _) ⟨by decide, by decide⟩ rfl rfl (by decide) (by decide) (Nat.le_of_ble_eq_true rfl) (fun _ _ r4 => ?_) (fun _ _ h => h.elim)
  obtain ⟨rfl, rfl⟩ := r4
  refine J_eq (st' := []) rfl rfl rfl ?_
  refine J_aload_n 0 rfl dX7_begin_131 ?_
  refine gf_7_10 (n0 _) dX7_begin_132 ?_
  refine J_aload_n 1 rfl dX7_begin_135 ?_
  refine gf_7_315 (n20 (by assumption)) dX7_begin_136 ?_
  refine J_topeq (nI s) (by unfold cfI tkI0; split <;> simp [ku] <;> first | exact ((hRc c hc).1.2.1.trans k1) | skip) ?_
  have hs10 : s < 10 := by have := hI.1; omega
  refine cv_7_70 (cells' := 0) (slots' := 0) dX7_begin_139 (c_X1_numbered_s (ns := mS m) (s := s) ⟨by have e := hS.2.1.1; unfold cfI tkI0; split <;> (simp [ku]; exact e), hS.2.1.2⟩ k2) (n1 _) ⟨by decide, by decide⟩ rfl rfl (by decide) (by decide) (Nat.le_of_ble_eq_true rfl) (fun _ _ r5 => ?_) (fun _ _ h => h.elim)
  obtain ⟨rfl, rfl⟩ := r5
  refine J_eq (st' := [.ref (ka S 17 s)]) rfl rfl rfl ?_
  refine J_aload_n 0 rfl dX7_begin_142 ?_
  refine gf_7_171 (n0 _) dX7_begin_143 ?_
  refine J_topeq (I 0 0 6) (by unfold cfI tkI0; split <;> simp [ku] <;> first | exact rfl | skip) ?_
  refine pf_7_238 (n17 _ (by omega)) dX7_begin_146 ?_
  refine J_aload_n 0 rfl dX7_begin_149 ?_
  refine gf_7_33 (n0 _) dX7_begin_150 ?_
  refine J_aload_n 0 rfl dX7_begin_153 ?_
  refine gf_7_171 (n0 _) dX7_begin_154 ?_
  refine J_topeq ((tkM m c v).1 30 26) (by exact hT1.1) ?_
  refine J_bipush (v := 98) (by decide) dX7_begin_157 ?_
  refine J_aload_n 1 rfl dX7_begin_159 ?_
  refine gf_7_109 (n20 (by assumption)) dX7_begin_160 ?_
  refine J_topeq (nI c) (by exact (hC1.2.2 c (by rw [tk_C]; exact hc)).1.1) ?_
  refine cv_7_174 (cells' := 0) (slots' := 0) dX7_begin_163 (c_X4_write (I := (tkI I (rc c) ((ln.map rc).length - 1) s (nI (mFree m c)) v)) (nx := lg % 60) (kp := min lg 60) hG1.2.2.1 hG1.2.2.2.1 (by omega) (by omega) (by decide) (by decide)) (n4 _) ⟨by decide, by decide⟩ rfl rfl (by decide) (by decide) (Nat.le_of_ble_eq_true rfl) (fun _ _ r6 => ?_) (fun _ _ h => h.elim)
  obtain ⟨rfl, rfl⟩ := r6
  refine J_eq (st' := []) rfl rfl rfl ?_
  exact J_return rfl dX7_begin_166 (⟨rfl, _, _, _, _, _, _, rfl, by rw [take_tk]; exact rel_log hRt (by omega) 98 (nI c), by omega⟩) (by omega) (by omega)

set_option maxRecDepth 20000 in
set_option maxHeartbeats 1000000 in
theorem lr_X7_begin {cy : Nat → ClassId} {S : Nat → Nat → Nat} {I : kI} {L : kL} {R : kRf} {LP : List Nat} {m : Mu} {rc : Nat → Nat} {ln qu : List Nat} {lg B : Nat} {c : Nat} {v : Int32} (hR : Rel m I L R LP rc ln qu lg) (hI : Inv m B) (hB : B + 1 < 2 ^ 30) (hlg : lg < 2 ^ 30) (hc : c < mC m) (ha : rc c ∈ LP) (hw : mWait m c = true) (hd : ∀ i, i < mC m → mSpk m i = true → m.1 57 i &&& v = 0) : J yX7_begin.cls yX7_begin.name cX7_begin 5 none 7 0 0 cy (fun r w' => r = none ∧ RelX cy S LP rc (mTake (mRoom m c) c v) w') kF 43 [(0, .ref (ka S 0 0)), (1, .ref (rc c)), (2, .int v)] [] (wc cy S I L R LP) 0 0 := by
  obtain ⟨hS, hC, hH, hL, hG, hT⟩ := hR
  have hR : Rel m I L R LP rc ln qu lg := ⟨hS, hC, hH, hL, hG, hT⟩
  have hRc := hC.2.2
  have hkk := hI.2.2.2.1
  have hh := hI.2.2.2.2.1
  have hfr := free_eq hC hH hc
  by_cases h3 : mFree m c = 3
  · rw [if_pos h3] at hfr
    obtain ⟨hlw, hwC, hwS⟩ := weak_eq hC hH hI.2.2.2.2.2.2.1 hh (by omega) hc h3
    have haw : rc (mWeak m c) ∈ LP := (hC.2.1.2.2 _ hwC).2
    obtain ⟨h0, h03, -, hmw⟩ := weak_on h3
    have er : mRoom m c = mInt m (mWeak m c) := if_pos h3
    refine J_aload_n 0 rfl dX7_begin_43 ?_
    refine gf_7_26 (n0 _) dX7_begin_44 ?_
    refine J_aload_n 1 rfl dX7_begin_47 ?_
    refine cv_7_335 (cells' := 0) (slots' := 0) dX7_begin_48 (c_X0_freeFor (hH.inLP hC) ha) (n3 _) ⟨by decide, by decide⟩ rfl rfl (by decide) (by decide) (Nat.le_of_ble_eq_true rfl) (fun _ _ r1 => ?_) (fun _ _ h => h.elim)
    obtain ⟨rfl, rfl⟩ := r1
    refine J_eq (st' := [.int (freeF I R (rc c))]) rfl rfl rfl ?_
    refine J_topeq (-1) hfr ?_
    refine J_iconst (v := (-1)) (by decide) dX7_begin_51 ?_
    refine J_icmp_ne 73 (by decide) dX7_begin_52 (fun c2 => ?_) (fun c2 => ?_)
    · exact absurd (by decide) c2
    refine J_aload_n 0 rfl dX7_begin_55 ?_
    refine gf_7_26 (n0 _) dX7_begin_56 ?_
    refine J_aload_n 1 rfl dX7_begin_59 ?_
    refine cv_7_339 (cells' := 0) (slots' := 0) dX7_begin_60 (c_X0_leastUrgentFor (hH.inLP hC) ha) (n3 _) ⟨by decide, by decide⟩ rfl rfl (by decide) (by decide) (Nat.le_of_ble_eq_true rfl) (fun _ _ r3 => ?_) (fun _ _ h => h.elim)
    obtain ⟨rfl, rfl⟩ := r3
    refine J_eq (st' := [va_rf (leaF I R (rc c))]) rfl rfl rfl ?_
    refine J_topv (v' := .ref (rc (mWeak m c))) (by first | rfl | (rw [hlw]; rfl)) ?_
    refine J_astore_n (lv' := [(0, .ref (ka S 0 0)), (1, .ref (rc c)), (2, .int v), (3, .ref (rc (mWeak m c)))]) (by decide) rfl dX7_begin_63 ?_
    refine J_aload_n 3 rfl dX7_begin_64 ?_
    refine J_ifnull dX7_begin_65 ?_
    refine J_aload_n 0 rfl dX7_begin_68 ?_
    refine J_aload_n 3 rfl dX7_begin_69 ?_
    refine cv_7_90 (cells' := 0) (slots' := 0) dX7_begin_70 (c_X7_interrupt hR hI (by omega) hlg (c := mWeak m c) hmw h03) (n0 _) ⟨by decide, by decide⟩ rfl rfl (by decide) (by decide) (Nat.le_of_ble_eq_true rfl) (fun _ _ r4 => ?_) (fun _ _ h => h.elim)
    obtain ⟨rfl, I1, L1, R1, ln1, qu1, lg1, rfl, hR1, hl1⟩ := r4
    refine J_eq (st' := []) rfl rfl rfl ?_
    refine J_sub (lv' := [(0, .ref (ka S 0 0)), (1, .ref (rc c)), (2, .int v)]) [0, 1, 2] rfl ?_
    have hI1 := inv_int hI hwC hwS
    rw [er]
    exact lt_X7_begin hR1 hI1 (by omega) (lg_lt hR1.2.2.2.2.1 hI1.2.2.2.2.2.2.1 (by omega) hl1) hc ha (int_wait hw) (er ▸ room_free hh) (fun i hi hs => by rw [(same_int _).f i (by decide)]; exact hd i hi (int_sub hs))
  · rw [if_neg h3] at hfr
    have hf3 := (free_none h3).1
    have er : mRoom m c = m := if_neg h3
    refine J_aload_n 0 rfl dX7_begin_43 ?_
    refine gf_7_26 (n0 _) dX7_begin_44 ?_
    refine J_aload_n 1 rfl dX7_begin_47 ?_
    refine cv_7_335 (cells' := 0) (slots' := 0) dX7_begin_48 (c_X0_freeFor (hH.inLP hC) ha) (n3 _) ⟨by decide, by decide⟩ rfl rfl (by decide) (by decide) (Nat.le_of_ble_eq_true rfl) (fun _ _ r1 => ?_) (fun _ _ h => h.elim)
    obtain ⟨rfl, rfl⟩ := r1
    refine J_eq (st' := [.int (freeF I R (rc c))]) rfl rfl rfl ?_
    refine J_topeq (nI (mFree m c)) hfr ?_
    refine J_iconst (v := (-1)) (by decide) dX7_begin_51 ?_
    refine J_icmp_ne 73 (by decide) dX7_begin_52 (fun c2 => ?_) (fun c2 => ?_)
    rotate_left
    · exfalso
      exact nI_nm1 (by omega) c2
    rw [er]
    exact lt_X7_begin hR hI (by omega) hlg hc ha hw h3 hd

set_option maxRecDepth 20000 in
set_option maxHeartbeats 1000000 in
theorem ls_X7_begin {cy : Nat → ClassId} {S : Nat → Nat → Nat} {I : kI} {L : kL} {R : kRf} {LP : List Nat} {m : Mu} {rc : Nat → Nat} {ln qu : List Nat} {lg B : Nat} {c : Nat} {v : Int32} {Q : kQT} {h : Nat} (hR : Rel m I L R LP rc ln qu lg) (hI : Inv m B) (hB : B < 2 ^ 30) (hlg : lg < 2 ^ 30) (hc : c < mC m) (ha : rc c ∈ LP) (hh3 : h < 3) (kk : ∀ (I : kI) (L : kL) (R : kRf) (ln qu : List Nat) (lg : Nat), Rel (mIntOn v h m) I L R LP rc ln qu lg → lg < 2 ^ 31 → J yX7_begin.cls yX7_begin.name cX7_begin 5 none 7 0 0 cy Q kF 2 [(0, .ref (ka S 0 0)), (1, .ref (rc c)), (2, .int v), (3, .int (nI (h + 1)))] [] (wc cy S I L R LP) 0 0) : J yX7_begin.cls yX7_begin.name cX7_begin 5 none 7 0 0 cy Q kF 2 [(0, .ref (ka S 0 0)), (1, .ref (rc c)), (2, .int v), (3, .int (nI h))] [] (wc cy S I L R LP) 0 0 := by
  obtain ⟨hS, hC, hH, hL, hG, hT⟩ := hR
  have hR : Rel m I L R LP rc ln qu lg := ⟨hS, hC, hH, hL, hG, hT⟩
  have hRc := hC.2.2
  have hkk := hI.2.2.2.1
  have hh := hI.2.2.2.2.1
  have e14 := hH.1 h hh3
  have hsp : spkF R (nI h) = R 14 0 h := by
    unfold spkF
    rw [if_pos ⟨nI_pos' (by omega), (nI_ltI (b := 3) (by omega) (by decide)).mpr hh3⟩, nI_toNat (by omega)]
  cases hm : mOn m h with
  | none =>
    rw [hm] at e14
    have e : mIntOn v h m = m := by unfold mIntOn; rw [hm]
    refine J_iload_n 3 rfl dX7_begin_2 ?_
    refine J_iconst (v := 3) (by decide) dX7_begin_3 ?_
    refine J_icmp_ge 43 (by decide) dX7_begin_4 (fun c1 => ?_) (fun c1 => ?_)
    · exfalso
      have Nc1 : 3 ≤ h := (nI_leI (a := 3) (b := h) (by omega) (by omega)).mp c1
      omega
    have Nc1 : ¬ (3 ≤ h) := fun q => c1 ((nI_leI (a := 3) (b := h) (by omega) (by omega)).mpr q)
    refine J_aload_n 0 rfl dX7_begin_7 ?_
    refine gf_7_26 (n0 _) dX7_begin_8 ?_
    refine J_iload_n 3 rfl dX7_begin_11 ?_
    refine cv_7_210 (cells' := 0) (slots' := 0) dX7_begin_12 (c_X0_speaker (hH.inLP hC)) (n3 _) ⟨by decide, by decide⟩ rfl rfl (by decide) (by decide) (Nat.le_of_ble_eq_true rfl) (fun _ _ r2 => ?_) (fun _ _ h => h.elim)
    obtain ⟨rfl, rfl⟩ := r2
    refine J_eq (st' := [va_rf (spkF R (nI h))]) rfl rfl rfl ?_
    refine J_topv (v' := .null) (by first | rfl | (rw [hsp, e14]; rfl)) ?_
    refine J_astoreN (lv' := [(0, .ref (ka S 0 0)), (1, .ref (rc c)), (2, .int v), (3, .int (nI h)), (4, .null)]) (by decide) rfl dX7_begin_15 ?_
    refine J_aloadN 4 rfl dX7_begin_17 ?_
    refine J_ifnullN 37 (by decide) dX7_begin_19 ?_
    refine J_iinc (v := (nI (h + 1))) (lv' := [(0, .ref (ka S 0 0)), (1, .ref (rc c)), (2, .int v), (3, .int (nI (h + 1))), (4, .null)]) 3 rfl (by exact nI_add h 1) (by decide) rfl dX7_begin_37 ?_
    refine J_goto 2 (by decide) dX7_begin_40 ?_
    refine J_sub (lv' := [(0, .ref (ka S 0 0)), (1, .ref (rc c)), (2, .int v), (3, .int (nI (h + 1)))]) [0, 1, 2, 3] rfl ?_
    exact kk _ _ _ _ _ _ (by rw [e]; exact hR) (by omega)
  | some o =>
    rw [hm] at e14
    have ho := mOn_some hm
    have hao : rc o ∈ LP := (hC.2.1.2.2 o ho.1).2
    have hsh : shrF I (rc o) v = decide (m.1 57 o &&& v ≠ 0) := by unfold shrF; rw [((hRc o ho.1).2 ho.2.1).2.1]
    by_cases hv : m.1 57 o &&& v ≠ 0
    · have e : mIntOn v h m = mInt m o := by unfold mIntOn; rw [hm]; exact if_pos hv
      refine J_iload_n 3 rfl dX7_begin_2 ?_
      refine J_iconst (v := 3) (by decide) dX7_begin_3 ?_
      refine J_icmp_ge 43 (by decide) dX7_begin_4 (fun c1 => ?_) (fun c1 => ?_)
      · exfalso
        have Nc1 : 3 ≤ h := (nI_leI (a := 3) (b := h) (by omega) (by omega)).mp c1
        omega
      have Nc1 : ¬ (3 ≤ h) := fun q => c1 ((nI_leI (a := 3) (b := h) (by omega) (by omega)).mpr q)
      refine J_aload_n 0 rfl dX7_begin_7 ?_
      refine gf_7_26 (n0 _) dX7_begin_8 ?_
      refine J_iload_n 3 rfl dX7_begin_11 ?_
      refine cv_7_210 (cells' := 0) (slots' := 0) dX7_begin_12 (c_X0_speaker (hH.inLP hC)) (n3 _) ⟨by decide, by decide⟩ rfl rfl (by decide) (by decide) (Nat.le_of_ble_eq_true rfl) (fun _ _ r2 => ?_) (fun _ _ h => h.elim)
      obtain ⟨rfl, rfl⟩ := r2
      refine J_eq (st' := [va_rf (spkF R (nI h))]) rfl rfl rfl ?_
      refine J_topv (v' := .ref (rc o)) (by first | rfl | (rw [hsp, e14]; rfl)) ?_
      refine J_astore (lv' := [(0, .ref (ka S 0 0)), (1, .ref (rc c)), (2, .int v), (3, .int (nI h)), (4, .ref (rc o))]) (by decide) rfl dX7_begin_15 ?_
      refine J_aload 4 rfl dX7_begin_17 ?_
      refine J_ifnull dX7_begin_19 ?_
      refine J_aload 4 rfl dX7_begin_22 ?_
      refine J_iload_n 2 rfl dX7_begin_24 ?_
      refine cv_7_332 (cells' := 0) (slots' := 0) dX7_begin_25 (c_X5_sharesStationWith hao) (n20 (by assumption)) ⟨by decide, by decide⟩ rfl rfl (by decide) (by decide) (Nat.le_of_ble_eq_true rfl) (fun _ _ r3 => ?_) (fun _ _ h => h.elim)
      obtain ⟨rfl, rfl⟩ := r3
      refine J_eq (st' := [.int (kb (shrF I (rc o) v))]) rfl rfl rfl ?_
      refine J_topeq 1 (by rw [hsh, decide_eq_true hv]; rfl) ?_
      refine J_if_eq 37 (by decide) dX7_begin_28 (fun c4 => ?_) (fun c4 => ?_)
      · exact absurd c4 (by decide)
      refine J_aload_n 0 rfl dX7_begin_31 ?_
      refine J_aload 4 rfl dX7_begin_32 ?_
      refine cv_7_90 (cells' := 0) (slots' := 0) dX7_begin_34 (c_X7_interrupt hR hI (by omega) hlg (c := o) hm hh3) (n0 _) ⟨by decide, by decide⟩ rfl rfl (by decide) (by decide) (Nat.le_of_ble_eq_true rfl) (fun _ _ r5 => ?_) (fun _ _ h => h.elim)
      obtain ⟨rfl, I1, L1, R1, ln1, qu1, lg1, rfl, hR1, hl1⟩ := r5
      refine J_eq (st' := []) rfl rfl rfl ?_
      refine J_iinc (v := (nI (h + 1))) (lv' := [(0, .ref (ka S 0 0)), (1, .ref (rc c)), (2, .int v), (3, .int (nI (h + 1))), (4, .ref (rc o))]) 3 rfl (by exact nI_add h 1) (by decide) rfl dX7_begin_37 ?_
      refine J_goto 2 (by decide) dX7_begin_40 ?_
      refine J_sub (lv' := [(0, .ref (ka S 0 0)), (1, .ref (rc c)), (2, .int v), (3, .int (nI (h + 1)))]) [0, 1, 2, 3] rfl ?_
      exact kk _ _ _ _ _ _ (by rw [e]; exact hR1) hl1
    · have e : mIntOn v h m = m := by unfold mIntOn; rw [hm]; exact if_neg hv
      refine J_iload_n 3 rfl dX7_begin_2 ?_
      refine J_iconst (v := 3) (by decide) dX7_begin_3 ?_
      refine J_icmp_ge 43 (by decide) dX7_begin_4 (fun c1 => ?_) (fun c1 => ?_)
      · exfalso
        have Nc1 : 3 ≤ h := (nI_leI (a := 3) (b := h) (by omega) (by omega)).mp c1
        omega
      have Nc1 : ¬ (3 ≤ h) := fun q => c1 ((nI_leI (a := 3) (b := h) (by omega) (by omega)).mpr q)
      refine J_aload_n 0 rfl dX7_begin_7 ?_
      refine gf_7_26 (n0 _) dX7_begin_8 ?_
      refine J_iload_n 3 rfl dX7_begin_11 ?_
      refine cv_7_210 (cells' := 0) (slots' := 0) dX7_begin_12 (c_X0_speaker (hH.inLP hC)) (n3 _) ⟨by decide, by decide⟩ rfl rfl (by decide) (by decide) (Nat.le_of_ble_eq_true rfl) (fun _ _ r2 => ?_) (fun _ _ h => h.elim)
      obtain ⟨rfl, rfl⟩ := r2
      refine J_eq (st' := [va_rf (spkF R (nI h))]) rfl rfl rfl ?_
      refine J_topv (v' := .ref (rc o)) (by first | rfl | (rw [hsp, e14]; rfl)) ?_
      refine J_astore (lv' := [(0, .ref (ka S 0 0)), (1, .ref (rc c)), (2, .int v), (3, .int (nI h)), (4, .ref (rc o))]) (by decide) rfl dX7_begin_15 ?_
      refine J_aload 4 rfl dX7_begin_17 ?_
      refine J_ifnull dX7_begin_19 ?_
      refine J_aload 4 rfl dX7_begin_22 ?_
      refine J_iload_n 2 rfl dX7_begin_24 ?_
      refine cv_7_332 (cells' := 0) (slots' := 0) dX7_begin_25 (c_X5_sharesStationWith hao) (n20 (by assumption)) ⟨by decide, by decide⟩ rfl rfl (by decide) (by decide) (Nat.le_of_ble_eq_true rfl) (fun _ _ r3 => ?_) (fun _ _ h => h.elim)
      obtain ⟨rfl, rfl⟩ := r3
      refine J_eq (st' := [.int (kb (shrF I (rc o) v))]) rfl rfl rfl ?_
      refine J_topeq 0 (by rw [hsh, decide_eq_false hv]; rfl) ?_
      refine J_if_eq 37 (by decide) dX7_begin_28 (fun c4 => ?_) (fun c4 => ?_)
      rotate_left
      · exact absurd (by decide) c4
      refine J_iinc (v := (nI (h + 1))) (lv' := [(0, .ref (ka S 0 0)), (1, .ref (rc c)), (2, .int v), (3, .int (nI (h + 1))), (4, .ref (rc o))]) 3 rfl (by exact nI_add h 1) (by decide) rfl dX7_begin_37 ?_
      refine J_goto 2 (by decide) dX7_begin_40 ?_
      refine J_sub (lv' := [(0, .ref (ka S 0 0)), (1, .ref (rc c)), (2, .int v), (3, .int (nI (h + 1)))]) [0, 1, 2, 3] rfl ?_
      exact kk _ _ _ _ _ _ (by rw [e]; exact hR) (by omega)

set_option maxRecDepth 20000 in
set_option maxHeartbeats 1000000 in
theorem c_X7_begin {cy : Nat → ClassId} {S : Nat → Nat → Nat} {I : kI} {L : kL} {R : kRf} {LP : List Nat} {m : Mu} {rc : Nat → Nat} {ln qu : List Nat} {lg B : Nat} {c : Nat} {v : Int32} (hR : Rel m I L R LP rc ln qu lg) (hI : Inv m B) (hB : B + 6 < 2 ^ 30) (hlg : lg < 2 ^ 30) (hc : c < mC m) (hw : mWait m c = true) : Con yX7_begin cX7_begin 5 none 7 0 0 cy [.ref (ka S 0 0), .ref (rc c), .int v] (wc cy S I L R LP) (fun r w' => r = none ∧ RelX cy S LP rc (mTake (mRoom (mClear m v) c) c v) w') kF := by
  obtain ⟨hS, hC, hH, hL, hG, hT⟩ := hR
  have hR : Rel m I L R LP rc ln qu lg := ⟨hS, hC, hH, hL, hG, hT⟩
  have hRc := hC.2.2
  have hkk := hI.2.2.2.1
  have hh := hI.2.2.2.2.1
  have ha : rc c ∈ LP := (hC.2.1.2.2 c hc).2
  have i1 : Inv (mIntOn v 0 m) (B + 1) := intOn_inv hI
  have i2 : Inv (mIntOn v 1 (mIntOn v 0 m)) (B + 2) := intOn_inv i1
  have i3 : Inv (mClear m v) (B + 3) := clear_inv hI
  refine Con_of (by decide +kernel) (Nat.le_of_ble_eq_true rfl) ?_
  refine J_eq (lv' := [(0, .ref (ka S 0 0)), (1, .ref (rc c)), (2, .int v)]) rfl rfl rfl ?_
  refine J_iconst (v := 0) (by decide) dX7_begin_0 ?_
  refine J_istore_n (lv' := [(0, .ref (ka S 0 0)), (1, .ref (rc c)), (2, .int v), (3, .int 0)]) (by decide) rfl dX7_begin_1 ?_
  refine J_eq (lv' := [(0, .ref (ka S 0 0)), (1, .ref (rc c)), (2, .int v), (3, .int (nI 0))]) rfl rfl rfl ?_
  refine ls_X7_begin (h := 0) hR hI (by omega) hlg hc ha (by decide) (fun I1 L1 R1 ln1 qu1 lg1 hR1 hl1 => ?_)
  refine ls_X7_begin (h := 1) hR1 i1 (by omega) (lg_lt hR1.2.2.2.2.1 i1.2.2.2.2.2.2.1 (by omega) hl1) (by rw [intOn_same.eC]; exact hc) ha (by decide) (fun I2 L2 R2 ln2 qu2 lg2 hR2 hl2 => ?_)
  refine ls_X7_begin (h := 2) hR2 i2 (by omega) (lg_lt hR2.2.2.2.2.1 i2.2.2.2.2.2.2.1 (by omega) hl2) (by rw [intOn_same.eC, intOn_same.eC]; exact hc) ha (by decide) (fun I3 L3 R3 ln3 qu3 lg3 hR3 hl3 => ?_)
  refine J_iload_n 3 rfl dX7_begin_2 ?_
  refine J_iconst (v := 3) (by decide) dX7_begin_3 ?_
  refine J_icmp_ge 43 (by decide) dX7_begin_4 (fun c1 => ?_) (fun c1 => ?_)
  rotate_left
  · exfalso
    have Nc1 : ¬ (3 ≤ 3) := fun q => c1 ((nI_leI (a := 3) (b := 3) (by omega) (by omega)).mpr q)
    omega
  have Nc1 : 3 ≤ 3 := (nI_leI (a := 3) (b := 3) (by omega) (by omega)).mp c1
  refine J_sub (lv' := [(0, .ref (ka S 0 0)), (1, .ref (rc c)), (2, .int v)]) [0, 1, 2] rfl ?_
  exact lr_X7_begin hR3 i3 (by omega) (lg_lt hR3.2.2.2.2.1 i3.2.2.2.2.2.2.1 (by omega) hl3) (by rw [clear_same.eC]; exact hc) ha (clear_wait hw) (fun i hi hs => clear_dis hI (by rw [clear_same.eC] at hi; exact hi) hs)

