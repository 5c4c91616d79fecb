/-! a call's constructor; placing a call -/

set_option maxRecDepth 20000 in
theorem c_X5_init {cy : Nat → ClassId} {S : Nat → Nat → Nat} {I : kI} {L : kL} {R : kRf} {LP : List Nat} {a : Nat} {c f t k p : Int32} (ha : a ∈ LP) : Con yX5_init cX5_init 6 none 1 0 0 cy [.ref a, .int c, .int f, .int t, .int k, .int p] (wc cy S I L R LP) (kRet none (wc cy S (ku (ku (ku (ku (ku (ku (ku I 20 a 0 c) 20 a 1 f) 20 a 2 t) 20 a 6 k) 20 a 3 p) 20 a 7 119) 20 a 8 (-1)) L R LP)) kF := by
  refine Con_of (by decide +kernel) (Nat.le_of_ble_eq_true rfl) ?_
  refine J_eq (lv' := [(0, .ref a), (1, .int c), (2, .int f), (3, .int t), (4, .int k), (5, .int p)]) rfl rfl rfl ?_
  refine J_aload_n 0 rfl dX5_init_0 ?_
  refine J_objInit lo_5_3 (by decide) (by decide) dX5_init_1 ?_
  refine J_aload_n 0 rfl dX5_init_4 ?_
  refine J_iload_n 1 rfl dX5_init_5 ?_
  refine pf_5_9 rfl (n20 (by assumption)) dX5_init_6 ?_
  refine J_aload_n 0 rfl dX5_init_9 ?_
  refine J_iload_n 2 rfl dX5_init_10 ?_
  refine pf_5_15 rfl (n20 (by assumption)) dX5_init_11 ?_
  refine J_aload_n 0 rfl dX5_init_14 ?_
  refine J_iload_n 3 rfl dX5_init_15 ?_
  refine pf_5_18 rfl (n20 (by assumption)) dX5_init_16 ?_
  refine J_aload_n 0 rfl dX5_init_19 ?_
  refine J_iload 4 rfl dX5_init_20 ?_
  refine pf_5_21 (n20 (by assumption)) dX5_init_22 ?_
  refine J_aload_n 0 rfl dX5_init_25 ?_
  refine J_iload 5 rfl dX5_init_26 ?_
  refine pf_5_24 rfl (n20 (by assumption)) dX5_init_28 ?_
  refine J_aload_n 0 rfl dX5_init_31 ?_
  refine J_bipush (v := 119) (by decide) dX5_init_32 ?_
  refine pf_5_27 (by first | assumption | decide | simp) (by first | assumption | decide | simp) (n20 (by assumption)) dX5_init_34 ?_
  refine J_aload_n 0 rfl dX5_init_37 ?_
  refine J_iconst (v := (-1)) (by decide) dX5_init_38 ?_
  refine pf_5_31 (n20 (by assumption)) dX5_init_39 ?_
  exact J_return rfl dX5_init_42 (⟨rfl, rfl⟩) (by omega) (by omega)

set_option maxRecDepth 20000 in
set_option maxHeartbeats 1000000 in
theorem c_X7_place {cy : Nat → ClassId} {S : Nat → Nat → Nat} {I : kI} {L : kL} {R : kRf} {LP : List Nat} {m : Mu} {rc : Nat → Nat} {ln qu : List Nat} {lg B : Nat} {f t : Nat} {u k : Int32} (hR : Rel m I L R LP rc ln qu lg) (hI : Inv m B) (hB : B < 2 ^ 30) (hlg : lg < 2 ^ 30) (h150 : mC m < 150) (h24 : mMany m 119 + mMany m 115 < 24) (hf : f < mS m) (ht : t < mS m) (hft : f ≠ t) (hu : u = 100 ∨ u = 117 ∨ u = 115 ∨ u = 114) : Con yX7_place cX7_place 6 none 3 1 13 cy [.ref (ka S 0 0), .int (nI f), .int (nI t), .int u, .int k] (wc cy S I L R LP) (fun r w' => r = none ∧ ∃ LP' rc', RelX cy S LP' rc' (mPlace m (nI f) (nI t) u k) w') kF := by
  obtain ⟨hS, hC, hH, hL, hG, hT⟩ := hR
  have hR : Rel m I L R LP rc ln qu lg := ⟨hS, hC, hH, hL, hG, hT⟩
  have hRc := hC.2.2
  have hkk := hI.2.2.2.1
  have hh := hI.2.2.2.2.1
  have hn := hC.1
  have hpc := hC.2.1.1
  have hl24 : ln.length < 24 := by have := ln_len hL; omega
  have hu1 : narrow .char (.int u) = .int u := by rcases hu with h | h | h | h <;> rw [h] <;> rfl
  have hu2 : fits .char (.int u) = true := by rcases hu with h | h | h | h <;> rw [h] <;> rfl
  refine Con_of (by decide +kernel) (Nat.le_of_ble_eq_true rfl) ?_
  refine J_eq (lv' := [(0, .ref (ka S 0 0)), (1, .int (nI f)), (2, .int (nI t)), (3, .int u), (4, .int k)]) rfl rfl rfl ?_
  refine J_aload_n 0 rfl dX7_place_0 ?_
  refine gf_7_147 (n0 _) dX7_place_1 ?_
  refine J_topeq (nI (mC m)) (by exact hpc) ?_
  refine J_aload_n 0 rfl dX7_place_4 ?_
  refine gf_7_39 (n0 _) dX7_place_5 ?_
  refine J_alen (v := 150) 5 (n5 _) rfl rfl rfl dX7_place_8 ?_
  refine J_icmp_lt 13 (by decide) dX7_place_9 (fun c1 => ?_) (fun c1 => ?_)
  rotate_left
  · exfalso
    have Nc1 : ¬ ((mC m) < 150) := fun q => c1 ((nI_ltI (a := (mC m)) (b := 150) (by omega) (by omega)).mpr q)
    omega
  have Nc1 : (mC m) < 150 := (nI_ltI (a := (mC m)) (b := 150) (by omega) (by omega)).mp c1
  refine J_new (index := 37) (ci := 7) (C := RX5) (T := TX5) (N := 13) kin5 tyX5 tyX5_ok lc_7_37 li_5 kini5 rfl (fs := [.int 0, .int 0, .int 0, .int 0, .int 0, .int 0, .int 0, .int 0, .int 0, .int 0, .int 0, .int 0, .int 0]) (by decide +kernel) (by decide) (by decide) dX7_place_13 (fun q hq => ?_)
  obtain ⟨hw, hqn⟩ := wc_new hq
  rw [hw]
  have hqm : q ∈ LP ++ [q] := List.mem_append_right _ (List.mem_singleton.mpr rfl)
  refine J_dup rfl dX7_place_16 ?_
  refine J_aload_n 0 rfl dX7_place_17 ?_
  refine gf_7_147 (n0 _) dX7_place_18 ?_
  refine J_topeq (nI (mC m)) (by exact hpc) ?_
  refine J_iload_n 1 rfl dX7_place_21 ?_
  refine J_iload_n 2 rfl dX7_place_22 ?_
  refine J_iload 4 rfl dX7_place_23 ?_
  refine J_aload_n 0 rfl dX7_place_25 ?_
  refine gf_7_171 (n0 _) dX7_place_26 ?_
  refine J_topeq (m.1 30 26) (by exact hT.1) ?_
  refine J_callI (b := q) (As := [.int (nI (mC m)), .int (nI f), .int (nI t), .int k, .int (m.1 30 26)]) (rest := [.ref q]) [] [] dX7_place_29 (c_X5_init (S := S) (I := kz I q) (L := L) (R := R) hqm) (by simp) ll_7_312 kc_yX5_init kini5 ki_yX5_init rfl kd_yX5_init ⟨by decide, by decide⟩ (by decide) (by decide) (Nat.le_of_ble_eq_true rfl) (fun _ _ h9 => ?_)
  obtain ⟨rfl, rfl⟩ := h9
  refine J_eq (w' := wc cy S (ku (ku (ku (ku (ku (ku (ku (kz I q) 20 q 0 (nI (mC m))) 20 q 1 (nI f)) 20 q 2 (nI t)) 20 q 6 k) 20 q 3 (m.1 30 26)) 20 q 7 119) 20 q 8 (-1)) L R (LP ++ [q])) (st' := [.ref q]) (by simp) rfl rfl ?_
  refine J_astore (lv' := [(0, .ref (ka S 0 0)), (1, .int (nI f)), (2, .int (nI t)), (3, .int u), (4, .int k), (5, .ref q)]) (by decide) rfl dX7_place_32 ?_
  refine J_aload 5 rfl dX7_place_34 ?_
  refine J_iload_n 3 rfl dX7_place_36 ?_
  refine cv_7_191 (cells' := (0 + 1)) (slots' := (0 + 13)) dX7_place_37 (c_X5_setUrgency hqm hu1 hu2) (n20 (by assumption)) ⟨by decide, by decide⟩ rfl rfl (by decide) (by decide) (Nat.le_of_ble_eq_true rfl) (fun _ _ r2 => ?_) (fun _ _ h => h.elim)
  obtain ⟨rfl, rfl⟩ := r2
  refine J_eq (st' := []) rfl rfl rfl ?_
  refine J_aload_n 0 rfl dX7_place_40 ?_
  refine gf_7_39 (n0 _) dX7_place_41 ?_
  refine J_aload_n 0 rfl dX7_place_44 ?_
  refine gf_7_147 (n0 _) dX7_place_45 ?_
  refine J_topeq (nI (mC m)) (by simp [ku, kz]; exact hpc) ?_
  refine J_aload 5 rfl dX7_place_48 ?_
  refine J_aastR (R' := ku R 5 0 (mC m) (some q)) (mC m) 5 (n5 _) rfl rfl (n20 (by assumption)) (vp_in_nI (by omega) (by decide)) (nI_toNat (by omega)) (by rw [ku_own]; rfl) (fun k' i' h => ⟨rfl, rfl, ku_row _ _ h⟩) dX7_place_50 ?_
  refine J_aload_n 0 rfl dX7_place_51 ?_
  refine J_dup rfl dX7_place_52 ?_
  refine gf_7_147 (n0 _) dX7_place_53 ?_
  refine J_topeq (nI (mC m)) (by simp [ku, kz]; exact hpc) ?_
  refine J_iconst (v := 1) (by decide) dX7_place_56 ?_
  refine J_iadd dX7_place_57 ?_
  refine J_topeq (nI (mC m + 1)) (by exact nI_add (mC m) 1) ?_
  refine pf_7_147 (n0 _) dX7_place_58 ?_
  refine J_aload_n 0 rfl dX7_place_61 ?_
  refine gf_7_19 (n0 _) dX7_place_62 ?_
  refine J_aload 5 rfl dX7_place_65 ?_
  refine cv_7_195 (cells' := (0 + 1)) (slots' := (0 + 13)) dX7_place_67 (c_X3_join (I := (plI I q (nI (mC m)) (nI f) (nI t) k (m.1 30 26) u (nI (mC m + 1)))) (R := ku R 5 0 (mC m) (some q)) (lo := ln.map rc) (lq := qu.map rc) (by rw [List.length_map]; exact hl24) (fun x hx => List.mem_append_left _ ((ln_LP hC hL).1 x hx)) hqm (by rw [List.length_map]; exact (pl_ok (by decide) (fun y => absurd y (by decide))).trans hL.1) (by rw [List.length_map, List.length_map]; exact hL.2.2.1) (arr_map hL.2.2.2.1 rfl) (arr_map hL.2.2.2.2.1 rfl)) (n2 _) ⟨by decide, by decide⟩ rfl rfl (by decide) (by decide) (Nat.le_of_ble_eq_true rfl) (fun _ _ r3 => ?_) (fun _ _ h => h.elim)
  obtain ⟨R1, k0, rfl, rfl, j1, j2, j3, j4, j5, j6⟩ := r3
  refine J_eq (st' := []) rfl rfl rfl ?_
  have hR1 := rel_place (k := k) hR hI hqn h150 h24 hf ht hft hu j1 j2 j3 j4 j5 j6
  have hG1 := hR1.2.2.2.2.1
  refine J_aload_n 0 rfl dX7_place_70 ?_
  refine gf_7_33 (n0 _) dX7_place_71 ?_
  refine J_aload_n 0 rfl dX7_place_74 ?_
  refine gf_7_171 (n0 _) dX7_place_75 ?_
  refine J_topeq (m.1 30 26) (by exact hR1.2.2.2.2.2.1.trans (pl_30 (by decide))) ?_
  refine J_bipush (v := 112) (by decide) dX7_place_78 ?_
  refine J_aload 5 rfl dX7_place_80 ?_
  refine gf_7_109 (n20 (by assumption)) dX7_place_82 ?_
  refine J_topeq (nI (mC m)) (by simp [ku, plI, kz]) ?_
  refine cv_7_174 (cells' := (0 + 1)) (slots' := (0 + 13)) dX7_place_85 (c_X4_write (nx := lg % 60) (kp := min lg 60) hG1.2.2.1 hG1.2.2.2.1 (by omega) (by omega) (by decide) (by decide)) (n4 _) ⟨by decide, by decide⟩ rfl rfl (by decide) (by decide) (Nat.le_of_ble_eq_true rfl) (fun _ _ r4 => ?_) (fun _ _ h => h.elim)
  obtain ⟨rfl, rfl⟩ := r4
  refine J_eq (st' := []) rfl rfl rfl ?_
  exact J_return rfl dX7_place_88 (⟨rfl, LP ++ [q], rcN rc (mC m) q, _, _, _, _, _, _, rfl, by rw [place_log, ← pl_30 (f := nI f) (t := nI t) (u := u) (k := k) (m := m) (j := 26) (by decide)]; exact rel_log hR1 (by omega) 112 (nI (mC m)), by omega⟩) (by omega) (by omega)

