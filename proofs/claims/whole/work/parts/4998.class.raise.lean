/-! raise -/
theorem wght_gt {u : Int32} (hu : u = 100 ∨ u = 117 ∨ u = 115) : wghtF u ≠ 0 ∧ wghtF u ≠ -1 := by rcases hu with h | h | h <;> rw [h] <;> decide

set_option maxRecDepth 20000 in
set_option maxHeartbeats 1000000 in
theorem c_X7_raise_sp {cy : Nat → ClassId} {S : Nat → Nat → Nat} {I : kI} {L : kL} {R : kRf} {LP : List Nat} {m : Mu} {rc : Nat → Nat} {ln qu : List Nat} {lg B : Nat} {i : Nat} {u : Int32} (hR : Rel m I L R LP rc ln qu lg) (hI : Inv m B) (hB : B + 4100 < 2 ^ 30) (hlg : lg < 2 ^ 30) (hi : i < mC m) (hu : u = 100 ∨ u = 117 ∨ u = 115) (hsp : m.1 55 i = 115) (hlt : mRank m i < wghtF u) : Con yX7_raise cX7_raise 6 (some .char) 11 0 0 cy [.ref (ka S 0 0), .int (nI i), .int u] (wc cy S I L R LP) (fun r w' => r = some (.int (m.1 53 i)) ∧ RelX cy S LP rc (mSpeak (raM m i u)) w') kF := by
  obtain ⟨hS, hC, hH, hL, hG, hT⟩ := hR
  have hR : Rel m I L R LP rc ln qu lg := ⟨hS, hC, hH, hL, hG, hT⟩
  have hRc := hC.2.2
  have hkk := hI.2.2.2.1
  have hh := hI.2.2.2.2.1
  obtain ⟨a0, a1, a2, a3, a4, a5, a6, a7, a8, a9⟩ := (hRc i hi).1
  have ha : rc i ∈ LP := (hC.2.1.2.2 i hi).2
  have hu4 : u = 100 ∨ u = 117 ∨ u = 115 ∨ u = 114 := by rcases hu with h | h | h <;> simp [h]
  have hu1 := nar_ch hu4
  have hu2 : fits .char (.int u) = true := by rcases hu with h | h | h <;> rw [h] <;> rfl
  have hnr := nar_ch (hkk i hi).2.1
  have hI1 := ra_inv (c := i) hI hu4
  have hR2 := rel_ur (u := u) hR hi (by unfold mWait; rw [hsp]; decide)
  refine Con_of (by decide +kernel) (Nat.le_of_ble_eq_true rfl) ?_
  refine J_eq (lv' := [(0, .ref (ka S 0 0)), (1, .int (nI i)), (2, .int u)]) rfl rfl rfl ?_
  refine J_aload_n 0 rfl dX7_raise_0 ?_
  refine J_iload_n 1 rfl dX7_raise_1 ?_
  refine cv_7_153 (cells' := 0) (slots' := 0) dX7_raise_2 (c_X7_callNumbered_s hC.2.1 hi) (n0 _) ⟨by decide, by decide⟩ rfl rfl (by decide) (by decide) (Nat.le_of_ble_eq_true rfl) (fun _ _ r1 => ?_) (fun _ _ h => h.elim)
  obtain ⟨rfl, rfl⟩ := r1
  refine J_eq (st' := [.ref (rc i)]) rfl rfl rfl ?_
  refine J_astore_n (lv' := [(0, .ref (ka S 0 0)), (1, .int (nI i)), (2, .int u), (3, .ref (rc i))]) (by decide) rfl dX7_raise_5 ?_
  refine J_iload_n 2 rfl dX7_raise_6 ?_
  refine cv_7_136 (i := 0) (cells' := 0) (slots' := 0) dX7_raise_7 (c_X7_weightOf) ⟨by decide, by decide⟩ rfl rfl (by decide) (by decide) (Nat.le_of_ble_eq_true rfl) (fun _ _ r2 => ?_) (fun _ _ h => h.elim)
  obtain ⟨rfl, rfl⟩ := r2
  refine J_eq (st' := [.int (wghtF u)]) rfl rfl rfl ?_
  refine J_istore (lv' := [(0, .ref (ka S 0 0)), (1, .int (nI i)), (2, .int u), (3, .ref (rc i)), (4, .int (wghtF u))]) (by decide) rfl dX7_raise_10 ?_
  refine J_iload 4 rfl dX7_raise_12 ?_
  refine J_iconst (v := (-1)) (by decide) dX7_raise_14 ?_
  refine J_icmp_eq 23 (by decide) dX7_raise_15 (fun c3 => ?_) (fun c3 => ?_)
  · exfalso
    exact (wght_gt hu).2 c3
  refine J_iload 4 rfl dX7_raise_18 ?_
  refine J_if_ne 33 (by decide) dX7_raise_20 (fun c4 => ?_) (fun c4 => ?_)
  rotate_left
  · exfalso
    exact (wght_gt hu).1 c4
  refine J_aload_n 3 rfl dX7_raise_33 ?_
  refine cv_7_156 (cells' := 0) (slots' := 0) dX7_raise_34 (c_X5_isOpen ha) (n20 (by assumption)) ⟨by decide, by decide⟩ rfl rfl (by decide) (by decide) (Nat.le_of_ble_eq_true rfl) (fun _ _ r5 => ?_) (fun _ _ h => h.elim)
  obtain ⟨rfl, rfl⟩ := r5
  refine J_eq (st' := [.int (kb (openF I (rc i)))]) rfl rfl rfl ?_
  refine J_topeq 1 (by unfold openF; rw [a7, hsp]; rfl) ?_
  refine J_if_eq 49 (by decide) dX7_raise_37 (fun c6 => ?_) (fun c6 => ?_)
  · exact absurd c6 (by decide)
  refine J_aload_n 3 rfl dX7_raise_40 ?_
  refine gf_7_183 (n20 (by assumption)) dX7_raise_41 ?_
  refine J_topeq (mRank m i) (by exact a5) ?_
  refine J_iload 4 rfl dX7_raise_44 ?_
  refine J_icmp_lt 59 (by decide) dX7_raise_46 (fun c7 => ?_) (fun c7 => ?_)
  rotate_left
  · exfalso
    exact c7 hlt
  refine J_aload_n 3 rfl dX7_raise_59 ?_
  refine gf_7_188 (n20 (by assumption)) dX7_raise_60 ?_
  refine J_topeq (m.1 53 i) (by exact a4) ?_
  refine J_istore (lv' := [(0, .ref (ka S 0 0)), (1, .int (nI i)), (2, .int u), (3, .ref (rc i)), (4, .int (wghtF u)), (5, .int (m.1 53 i))]) (by decide) rfl dX7_raise_63 ?_
  refine J_aload_n 3 rfl dX7_raise_65 ?_
  refine gf_7_161 (n20 (by assumption)) dX7_raise_66 ?_
  refine J_topeq 115 (by exact a7.trans hsp) ?_
  refine J_bipush (v := 119) (by decide) dX7_raise_69 ?_
  refine J_icmp_ne 98 (by decide) dX7_raise_71 (fun c8 => ?_) (fun c8 => ?_)
  rotate_left
  · exact absurd c8 (by decide)
  refine J_aload_n 3 rfl dX7_raise_98 ?_
  refine J_iload_n 2 rfl dX7_raise_99 ?_
  refine cv_7_191 (cells' := 0) (slots' := 0) dX7_raise_100 (c_X5_setUrgency (I := I) ha hu1 hu2) (n20 (by assumption)) ⟨by decide, by decide⟩ rfl rfl (by decide) (by decide) (Nat.le_of_ble_eq_true rfl) (fun _ _ r9 => ?_) (fun _ _ h => h.elim)
  obtain ⟨rfl, rfl⟩ := r9
  refine J_eq (st' := []) rfl rfl rfl ?_
  refine J_aload_n 0 rfl dX7_raise_103 ?_
  refine cv_7_67 (cells' := 0) (slots' := 0) dX7_raise_104 (c_X7_letSpeak hR2 hI1 (by omega) hlg) (n0 _) ⟨by decide, by decide⟩ rfl rfl (by decide) (by decide) (Nat.le_of_ble_eq_true rfl) (fun _ _ r10 => ?_) (fun _ _ h => h.elim)
  obtain ⟨rfl, I4, L4, R4, ln4, qu4, lg4, rfl, hR4, hl4⟩ := r10
  refine J_eq (st' := []) rfl rfl rfl ?_
  refine J_iload 5 rfl dX7_raise_107 ?_
  exact J_ireturn rfl (by first | rfl | assumption | simp [kb_nar]) dX7_raise_109 (⟨rfl, I4, L4, R4, ln4, qu4, lg4, rfl, hR4, hl4⟩) (by omega) (by omega)

set_option maxRecDepth 20000 in
set_option maxHeartbeats 1000000 in
theorem c_X7_raise_w {cy : Nat → ClassId} {S : Nat → Nat → Nat} {I : kI} {L : kL} {R : kRf} {LP : List Nat} {m : Mu} {rc : Nat → Nat} {ln qu : List Nat} {lg B : Nat} {i : Nat} {u : Int32} (hR : Rel m I L R LP rc ln qu lg) (hI : Inv m B) (hB : B + 4100 < 2 ^ 30) (hlg : lg < 2 ^ 30) (hi : i < mC m) (hu : u = 100 ∨ u = 117 ∨ u = 115) (hsp : m.1 55 i = 119) (hlt : mRank m i < wghtF u) : Con yX7_raise cX7_raise 6 (some .char) 11 0 0 cy [.ref (ka S 0 0), .int (nI i), .int u] (wc cy S I L R LP) (fun r w' => r = some (.int (m.1 53 i)) ∧ RelX cy S LP rc (mSpeak (raM m i u)) w') kF := by
  obtain ⟨hS, hC, hH, hL, hG, hT⟩ := hR
  have hR : Rel m I L R LP rc ln qu lg := ⟨hS, hC, hH, hL, hG, hT⟩
  have hRc := hC.2.2
  have hkk := hI.2.2.2.1
  have hh := hI.2.2.2.2.1
  obtain ⟨a0, a1, a2, a3, a4, a5, a6, a7, a8, a9⟩ := (hRc i hi).1
  have ha : rc i ∈ LP := (hC.2.1.2.2 i hi).2
  have hu4 : u = 100 ∨ u = 117 ∨ u = 115 ∨ u = 114 := by rcases hu with h | h | h <;> simp [h]
  have hu1 := nar_ch hu4
  have hu2 : fits .char (.int u) = true := by rcases hu with h | h | h <;> rw [h] <;> rfl
  have hnr := nar_ch (hkk i hi).2.1
  have hI1 := ra_inv (c := i) hI hu4
  have hcl : i ∈ ln := (hL.2.2.2.2.2.1 i).mpr ⟨hi, by unfold mWait; exact decide_eq_true hsp⟩
  have hcq : i ∈ qu := (hL.2.2.2.2.2.2.1 i).mpr hcl
  have hle : (ln.erase i).length = ln.length - 1 := List.length_erase_of_mem hcl
  have hqe : (qu.erase i).length = qu.length - 1 := List.length_erase_of_mem hcq
  have hpos : 0 < ln.length := List.length_pos_of_mem hcl
  have hl24 := hL.2.1
  have hin : ∀ x ∈ ln, rc x = rc i → x = i := fun x hx z => rc_inj hC ((hL.2.2.2.2.2.1 x).mp hx).1 hi z
  have hin2 : ∀ x ∈ qu, rc x = rc i → x = i := fun x hx => hin x ((hL.2.2.2.2.2.2.1 x).mp hx)
  refine Con_of (by decide +kernel) (Nat.le_of_ble_eq_true rfl) ?_
  refine J_eq (lv' := [(0, .ref (ka S 0 0)), (1, .int (nI i)), (2, .int u)]) rfl rfl rfl ?_
  refine J_aload_n 0 rfl dX7_raise_0 ?_
  refine J_iload_n 1 rfl dX7_raise_1 ?_
  refine cv_7_153 (cells' := 0) (slots' := 0) dX7_raise_2 (c_X7_callNumbered_s hC.2.1 hi) (n0 _) ⟨by decide, by decide⟩ rfl rfl (by decide) (by decide) (Nat.le_of_ble_eq_true rfl) (fun _ _ r1 => ?_) (fun _ _ h => h.elim)
  obtain ⟨rfl, rfl⟩ := r1
  refine J_eq (st' := [.ref (rc i)]) rfl rfl rfl ?_
  refine J_astore_n (lv' := [(0, .ref (ka S 0 0)), (1, .int (nI i)), (2, .int u), (3, .ref (rc i))]) (by decide) rfl dX7_raise_5 ?_
  refine J_iload_n 2 rfl dX7_raise_6 ?_
  refine cv_7_136 (i := 0) (cells' := 0) (slots' := 0) dX7_raise_7 (c_X7_weightOf) ⟨by decide, by decide⟩ rfl rfl (by decide) (by decide) (Nat.le_of_ble_eq_true rfl) (fun _ _ r2 => ?_) (fun _ _ h => h.elim)
  obtain ⟨rfl, rfl⟩ := r2
  refine J_eq (st' := [.int (wghtF u)]) rfl rfl rfl ?_
  refine J_istore (lv' := [(0, .ref (ka S 0 0)), (1, .int (nI i)), (2, .int u), (3, .ref (rc i)), (4, .int (wghtF u))]) (by decide) rfl dX7_raise_10 ?_
  refine J_iload 4 rfl dX7_raise_12 ?_
  refine J_iconst (v := (-1)) (by decide) dX7_raise_14 ?_
  refine J_icmp_eq 23 (by decide) dX7_raise_15 (fun c3 => ?_) (fun c3 => ?_)
  · exfalso
    exact (wght_gt hu).2 c3
  refine J_iload 4 rfl dX7_raise_18 ?_
  refine J_if_ne 33 (by decide) dX7_raise_20 (fun c4 => ?_) (fun c4 => ?_)
  rotate_left
  · exfalso
    exact (wght_gt hu).1 c4
  refine J_aload_n 3 rfl dX7_raise_33 ?_
  refine cv_7_156 (cells' := 0) (slots' := 0) dX7_raise_34 (c_X5_isOpen ha) (n20 (by assumption)) ⟨by decide, by decide⟩ rfl rfl (by decide) (by decide) (Nat.le_of_ble_eq_true rfl) (fun _ _ r5 => ?_) (fun _ _ h => h.elim)
  obtain ⟨rfl, rfl⟩ := r5
  refine J_eq (st' := [.int (kb (openF I (rc i)))]) rfl rfl rfl ?_
  refine J_topeq 1 (by unfold openF; rw [a7, hsp]; rfl) ?_
  refine J_if_eq 49 (by decide) dX7_raise_37 (fun c6 => ?_) (fun c6 => ?_)
  · exact absurd c6 (by decide)
  refine J_aload_n 3 rfl dX7_raise_40 ?_
  refine gf_7_183 (n20 (by assumption)) dX7_raise_41 ?_
  refine J_topeq (mRank m i) (by exact a5) ?_
  refine J_iload 4 rfl dX7_raise_44 ?_
  refine J_icmp_lt 59 (by decide) dX7_raise_46 (fun c7 => ?_) (fun c7 => ?_)
  rotate_left
  · exfalso
    exact c7 hlt
  refine J_aload_n 3 rfl dX7_raise_59 ?_
  refine gf_7_188 (n20 (by assumption)) dX7_raise_60 ?_
  refine J_topeq (m.1 53 i) (by exact a4) ?_
  refine J_istore (lv' := [(0, .ref (ka S 0 0)), (1, .int (nI i)), (2, .int u), (3, .ref (rc i)), (4, .int (wghtF u)), (5, .int (m.1 53 i))]) (by decide) rfl dX7_raise_63 ?_
  refine J_aload_n 3 rfl dX7_raise_65 ?_
  refine gf_7_161 (n20 (by assumption)) dX7_raise_66 ?_
  refine J_topeq 119 (by exact a7.trans hsp) ?_
  refine J_bipush (v := 119) (by decide) dX7_raise_69 ?_
  refine J_icmp_ne 98 (by decide) dX7_raise_71 (fun c8 => ?_) (fun c8 => ?_)
  · exact absurd (by decide) c8
  refine J_aload_n 0 rfl dX7_raise_74 ?_
  refine gf_7_19 (n0 _) dX7_raise_75 ?_
  refine J_aload_n 3 rfl dX7_raise_78 ?_
  refine cv_7_168 (cells' := 0) (slots' := 0) dX7_raise_79 (c_X3_leave (lo := ln.map rc) (lq := qu.map rc) (a := rc i) (by rw [List.length_map]; exact hL.2.1) (ln_LP hC hL).1 (by rw [List.length_map]; exact hL.1) (arr_map hL.2.2.2.1 rfl) (by rw [List.length_map, hL.2.2.1]; exact hL.2.1) (ln_LP hC hL).2 (by rw [List.length_map, hL.2.2.1]; exact hL.1) (arr_map hL.2.2.2.2.1 rfl) (List.mem_map_of_mem hcl) (List.mem_map_of_mem ((hL.2.2.2.2.2.2.1 i).mpr hcl))) (n2 _) ⟨by decide, by decide⟩ rfl rfl (by decide) (by decide) (Nat.le_of_ble_eq_true rfl) (fun _ _ r9 => ?_) (fun _ _ h => h.elim)
  obtain ⟨R1, rfl, rfl, j1, j2, j3⟩ := r9
  refine J_eq (st' := []) rfl rfl rfl ?_
  refine J_aload_n 3 rfl dX7_raise_82 ?_
  refine J_iload_n 2 rfl dX7_raise_83 ?_
  refine cv_7_191 (cells' := 0) (slots' := 0) dX7_raise_84 (c_X5_setUrgency (I := (ku I 2 0 2 (nI ((ln.map rc).length - 1)))) ha hu1 hu2) (n20 (by assumption)) ⟨by decide, by decide⟩ rfl rfl (by decide) (by decide) (Nat.le_of_ble_eq_true rfl) (fun _ _ r10 => ?_) (fun _ _ h => h.elim)
  obtain ⟨rfl, rfl⟩ := r10
  refine J_eq (st' := []) rfl rfl rfl ?_
  refine J_aload_n 0 rfl dX7_raise_87 ?_
  refine gf_7_19 (n0 _) dX7_raise_88 ?_
  refine J_aload_n 3 rfl dX7_raise_91 ?_
  refine cv_7_195 (cells' := 0) (slots' := 0) dX7_raise_92 (c_X3_join (I := (urI (ku I 2 0 2 (nI ((ln.map rc).length - 1))) (rc i) u)) (R := R1) (lo := (ln.erase i).map rc) (lq := (qu.erase i).map rc) (by rw [List.length_map]; omega) (fun x hx => (ln_LP hC hL).1 x (List.map_subset rc List.erase_subset hx)) ha (by rw [List.length_map, List.length_map, hle]; simp [urI, ku]) (by rw [List.length_map, List.length_map, hle, hqe, hL.2.2.1]) (by rw [← map_er rc hin]; exact j1) (by rw [← map_er rc hin2]; exact j2)) (n2 _) ⟨by decide, by decide⟩ rfl rfl (by decide) (by decide) (Nat.le_of_ble_eq_true rfl) (fun _ _ r11 => ?_) (fun _ _ h => h.elim)
  obtain ⟨R2, k0, rfl, rfl, p1, p2, p3, p4, p5, p6⟩ := r11
  refine J_eq (st' := []) rfl rfl rfl ?_
  have hR2 := rel_raw hR hI hi hsp hu4 j1 j2 j3 p1 p2 p3 p4 p5 p6
  refine J_goto 103 (by decide) dX7_raise_95 ?_
  refine J_aload_n 0 rfl dX7_raise_103 ?_
  refine cv_7_67 (cells' := 0) (slots' := 0) dX7_raise_104 (c_X7_letSpeak hR2 hI1 (by omega) hlg) (n0 _) ⟨by decide, by decide⟩ rfl rfl (by decide) (by decide) (Nat.le_of_ble_eq_true rfl) (fun _ _ r12 => ?_) (fun _ _ h => h.elim)
  obtain ⟨rfl, I4, L4, R4, ln4, qu4, lg4, rfl, hR4, hl4⟩ := r12
  refine J_eq (st' := []) rfl rfl rfl ?_
  refine J_iload 5 rfl dX7_raise_107 ?_
  exact J_ireturn rfl (by first | rfl | assumption | simp [kb_nar]) dX7_raise_109 (⟨rfl, I4, L4, R4, ln4, qu4, lg4, rfl, hR4, hl4⟩) (by omega) (by omega)

