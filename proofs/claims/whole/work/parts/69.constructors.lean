/-! CONSTRUCTORS: what each makes, in the order in which it makes it -/
theorem li_7 : Cond.instantiable RX7 11 ∈ kT := kT_of (i := 73) (by decide +kernel) rfl
theorem lo_7_1 : Cond.methodLink RX7 1 Lib.objectInit ∈ kT := kT_of (i := 77) (by decide +kernel) rfl
theorem lk_7_7 : Cond.classLink RX7 7 RX1 ∈ kT := kT_of (i := 80) (by decide +kernel) rfl
theorem li_1 : Cond.instantiable RX1 6 ∈ kT := kT_of (i := 81) (by decide +kernel) rfl
theorem lm_7_9 : Cond.methodLink RX7 9 yX1_init ∈ kT := kT_of (i := 82) (by decide +kernel) rfl
theorem lo_1_3 : Cond.methodLink RX1 3 Lib.objectInit ∈ kT := kT_of (i := 85) (by decide +kernel) rfl
theorem lk_1_9 : Cond.classLink RX1 9 RX6 ∈ kT := kT_of (i := 86) (by decide +kernel) rfl
theorem lk_1_27 : Cond.classLink RX1 27 "[[I" ∈ kT := kT_of (i := 88) (by decide +kernel) rfl
theorem li_6 : Cond.instantiable RX6 6 ∈ kT := kT_of (i := 90) (by decide +kernel) rfl
theorem lo_6_1 : Cond.methodLink RX6 1 Lib.objectInit ∈ kT := kT_of (i := 94) (by decide +kernel) rfl
theorem lk_7_16 : Cond.classLink RX7 16 RX3 ∈ kT := kT_of (i := 142) (by decide +kernel) rfl
theorem li_3 : Cond.instantiable RX3 3 ∈ kT := kT_of (i := 143) (by decide +kernel) rfl
theorem lo_3_3 : Cond.methodLink RX3 3 Lib.objectInit ∈ kT := kT_of (i := 147) (by decide +kernel) rfl
theorem lk_3_9 : Cond.classLink RX3 9 RX5 ∈ kT := kT_of (i := 148) (by decide +kernel) rfl
theorem lk_7_23 : Cond.classLink RX7 23 RX0 ∈ kT := kT_of (i := 161) (by decide +kernel) rfl
theorem li_0 : Cond.instantiable RX0 2 ∈ kT := kT_of (i := 162) (by decide +kernel) rfl
theorem lo_0_3 : Cond.methodLink RX0 3 Lib.objectInit ∈ kT := kT_of (i := 166) (by decide +kernel) rfl
theorem lk_0_9 : Cond.classLink RX0 9 RX5 ∈ kT := kT_of (i := 167) (by decide +kernel) rfl
theorem lk_7_30 : Cond.classLink RX7 30 RX4 ∈ kT := kT_of (i := 175) (by decide +kernel) rfl
theorem li_4 : Cond.instantiable RX4 4 ∈ kT := kT_of (i := 176) (by decide +kernel) rfl
theorem lm_7_32 : Cond.methodLink RX7 32 yX4_init ∈ kT := kT_of (i := 177) (by decide +kernel) rfl
theorem lo_4_3 : Cond.methodLink RX4 3 Lib.objectInit ∈ kT := kT_of (i := 180) (by decide +kernel) rfl
theorem lk_4_9 : Cond.classLink RX4 9 RX2 ∈ kT := kT_of (i := 181) (by decide +kernel) rfl
theorem li_2 : Cond.instantiable RX2 3 ∈ kT := kT_of (i := 183) (by decide +kernel) rfl
theorem lo_2_1 : Cond.methodLink RX2 1 Lib.objectInit ∈ kT := kT_of (i := 187) (by decide +kernel) rfl
theorem li_8 : Cond.instantiable RX8 32 ∈ kT := kT_of (i := 1001) (by decide +kernel) rfl
theorem lo_8_1 : Cond.methodLink RX8 1 Lib.objectInit ∈ kT := kT_of (i := 1005) (by decide +kernel) rfl
theorem lar_int : Cond.arrayClass (newarray.typeOf .int) ∈ kT := kT_of (i := 121) (by decide +kernel) rfl
theorem lar_boolean : Cond.arrayClass (newarray.typeOf .boolean) ∈ kT := kT_of (i := 1103) (by decide +kernel) rfl
theorem lar_char : Cond.arrayClass (newarray.typeOf .char) ∈ kT := kT_of (i := 1104) (by decide +kernel) rfl
theorem lar_long : Cond.arrayClass (newarray.typeOf .long) ∈ kT := kT_of (i := 1399) (by decide +kernel) rfl
theorem lar_double : Cond.arrayClass (newarray.typeOf .double) ∈ kT := kT_of (i := 1400) (by decide +kernel) rfl
theorem c_X6_init {cy : Nat → ClassId} {b : Nat} {fs : List Value} : Con yX6_init cX6_init 1 none 1 0 0 cy [.ref b] [(b, .inr (8, fs))] (kRet none [(b, .inr (8, fs))]) (fun _ _ => False) := by
  refine Con_of (by decide +kernel) (Nat.le_of_ble_eq_true rfl) ?_
  refine J_eq (lv' := [(0, .ref b)]) rfl rfl rfl ?_
  refine J_aload_n 0 rfl dX6_init_0 ?_
  refine J_objInit lo_6_1 (by decide) (by decide) dX6_init_1 ?_
  exact J_return rfl dX6_init_4 ⟨rfl, rfl⟩ (by decide) (by decide)
theorem c_X2_init {cy : Nat → ClassId} {b : Nat} {fs : List Value} : Con yX2_init cX2_init 1 none 1 0 0 cy [.ref b] [(b, .inr (4, fs))] (kRet none [(b, .inr (4, fs))]) (fun _ _ => False) := by
  refine Con_of (by decide +kernel) (Nat.le_of_ble_eq_true rfl) ?_
  refine J_eq (lv' := [(0, .ref b)]) rfl rfl rfl ?_
  refine J_aload_n 0 rfl dX2_init_0 ?_
  refine J_objInit lo_2_1 (by decide) (by decide) dX2_init_1 ?_
  exact J_return rfl dX2_init_4 ⟨rfl, rfl⟩ (by decide) (by decide)
def wCh (cy : Nat → ClassId) (b q1 q2 : Nat) : va_W := [(b, .inr (2, [.ref q1, .ref q2])), (q1, .inl (cy 5, 3, .inr (.inr (.inr (.inr (fun _ => none)))))), (q2, .inl (cy 0, 3, .inl (fun _ => 0)))]
theorem wCh_kw {cy : Nat → ClassId} {S : Nat → Nat → Nat} : kw S (shA cy S) (fun _ _ _ => 0) (fun _ _ _ => 0) (fun _ _ _ => none) [(3, 0), (14, 0), (15, 0)] = wCh cy (S 3 0) (S 14 0) (S 15 0) := rfl
theorem c_X0_init {cy : Nat → ClassId} {b : Nat} : Con yX0_init cX0_init 1 none 1 2 6 cy [.ref b] [(b, .inr (2, [.null, .null]))] (fun r w' => r = none ∧ ∃ q1 q2, w' = wCh cy b q1 q2) (fun _ _ => False) := by
  refine Con_of (by decide +kernel) (Nat.le_of_ble_eq_true rfl) ?_
  refine J_eq (lv' := [(0, .ref b)]) rfl rfl rfl ?_
  refine J_aload_n 0 rfl dX0_init_0 ?_
  refine J_objInit lo_0_3 (by decide) (by decide) dX0_init_1 ?_
  refine J_aload_n 0 rfl dX0_init_4 ?_
  refine J_iconst (v := 3) (by decide) dX0_init_5 ?_
  refine J_newqR (C := "FoghornExchange$RadioCall") (N' := 3) 5 rfl lk_0_9 (by decide) (by decide) (by decide) (by decide) (by decide) (by decide) dX0_init_6 (fun q1 => ?_)
  refine J_putR (C := RX0) (T := TX0) (N := 2) (ci := 2) (f := 0) (fs := [.null, .null]) 0 rfl rfl kin0 tyX0 tyX0_ok nmX0 (by decide) lf_0_11 rfl rfl rfl (tyX0_ok 0 (by decide)) rfl rfl (Nat.le_of_ble_eq_true rfl) dX0_init_9 ?_
  refine J_eq (w' := [(b, .inr (2, [.ref q1, .null])), (q1, .inl (cy 5, 3, .inr (.inr (.inr (.inr (fun _ => none))))))]) (lv' := [(0, .ref b)]) (st' := []) rfl rfl rfl ?_
  refine J_aload_n 0 rfl dX0_init_12 ?_
  refine J_iconst (v := 3) (by decide) dX0_init_13 ?_
  refine J_newaR (N' := 3) (a0 := (3, .inl (fun _ => 0))) 0 rfl lar_int rfl (fun _ => rfl) (by decide) (by decide) (by decide) (by decide) (by decide) dX0_init_14 (fun q2 => ?_)
  refine J_putR (C := RX0) (T := TX0) (N := 2) (ci := 2) (f := 1) (fs := [.ref q1, .null]) 0 rfl rfl kin0 tyX0 tyX0_ok nmX0 (by decide) lf_0_17 rfl rfl rfl (tyX0_ok 1 (by decide)) rfl rfl (Nat.le_of_ble_eq_true rfl) dX0_init_16 ?_
  refine J_eq (w' := [(b, .inr (2, [.ref q1, .ref q2])), (q1, .inl (cy 5, 3, .inr (.inr (.inr (.inr (fun _ => none)))))), (q2, .inl (cy 0, 3, .inl (fun _ => 0)))]) (lv' := [(0, .ref b)]) (st' := []) rfl rfl rfl ?_
  exact J_return rfl dX0_init_19 ⟨rfl, q1, q2, rfl⟩ (by decide) (by decide)
def wLi (cy : Nat → ClassId) (b q1 q2 : Nat) : va_W := [(b, .inr (5, [.ref q1, .ref q2, .int 0])), (q1, .inl (cy 5, 24, .inr (.inr (.inr (.inr (fun _ => none)))))), (q2, .inl (cy 5, 24, .inr (.inr (.inr (.inr (fun _ => none))))))]
theorem wLi_kw {cy : Nat → ClassId} {S : Nat → Nat → Nat} : kw S (shA cy S) (fun _ _ _ => 0) (fun _ _ _ => 0) (fun _ _ _ => none) [(2, 0), (12, 0), (13, 0)] = wLi cy (S 2 0) (S 12 0) (S 13 0) := rfl
theorem c_X3_init {cy : Nat → ClassId} {b : Nat} : Con yX3_init cX3_init 1 none 1 2 48 cy [.ref b] [(b, .inr (5, [.null, .null, .int 0]))] (fun r w' => r = none ∧ ∃ q1 q2, w' = wLi cy b q1 q2) (fun _ _ => False) := by
  refine Con_of (by decide +kernel) (Nat.le_of_ble_eq_true rfl) ?_
  refine J_eq (lv' := [(0, .ref b)]) rfl rfl rfl ?_
  refine J_aload_n 0 rfl dX3_init_0 ?_
  refine J_objInit lo_3_3 (by decide) (by decide) dX3_init_1 ?_
  refine J_aload_n 0 rfl dX3_init_4 ?_
  refine J_bipush (v := 24) (by decide) dX3_init_5 ?_
  refine J_newqR (C := "FoghornExchange$RadioCall") (N' := 24) 5 rfl lk_3_9 (by decide) (by decide) (by decide) (by decide) (by decide) (by decide) dX3_init_7 (fun q1 => ?_)
  refine J_putR (C := RX3) (T := TX3) (N := 3) (ci := 5) (f := 0) (fs := [.null, .null, .int 0]) 0 rfl rfl kin3 tyX3 tyX3_ok nmX3 (by decide) lf_3_11 rfl rfl rfl (tyX3_ok 0 (by decide)) rfl rfl (Nat.le_of_ble_eq_true rfl) dX3_init_10 ?_
  refine J_eq (w' := [(b, .inr (5, [.ref q1, .null, .int 0])), (q1, .inl (cy 5, 24, .inr (.inr (.inr (.inr (fun _ => none))))))]) (lv' := [(0, .ref b)]) (st' := []) rfl rfl rfl ?_
  refine J_aload_n 0 rfl dX3_init_13 ?_
  refine J_bipush (v := 24) (by decide) dX3_init_14 ?_
  refine J_newqR (C := "FoghornExchange$RadioCall") (N' := 24) 5 rfl lk_3_9 (by decide) (by decide) (by decide) (by decide) (by decide) (by decide) dX3_init_16 (fun q2 => ?_)
  refine J_putR (C := RX3) (T := TX3) (N := 3) (ci := 5) (f := 1) (fs := [.ref q1, .null, .int 0]) 0 rfl rfl kin3 tyX3 tyX3_ok nmX3 (by decide) lf_3_17 rfl rfl rfl (tyX3_ok 1 (by decide)) rfl rfl (Nat.le_of_ble_eq_true rfl) dX3_init_19 ?_
  refine J_eq (w' := [(b, .inr (5, [.ref q1, .ref q2, .int 0])), (q1, .inl (cy 5, 24, .inr (.inr (.inr (.inr (fun _ => none)))))), (q2, .inl (cy 5, 24, .inr (.inr (.inr (.inr (fun _ => none))))))]) (lv' := [(0, .ref b)]) (st' := []) rfl rfl rfl ?_
  exact J_return rfl dX3_init_22 ⟨rfl, q1, q2, rfl⟩ (by decide) (by decide)
def wLoJ (cy : Nat → ClassId) (b q1 : Nat) (r : Nat → Nat) (j : Nat) : va_W := [(b, .inr (6, [.ref q1, .int 0, .int 0, .int 0])), (q1, .inl (cy 7, 60, .inr (.inr (.inr (.inr (fun k => if k < j then some (r k) else none))))))] ++ (List.range j).map (fun i => (r i, .inr (4, [.int 0, .int 0, .int 0])))
def wLoF (cy : Nat → ClassId) (b q1 : Nat) (r : Nat → Nat) : va_W := [(b, .inr (6, [.ref q1, .int 0, .int 0, .int 0])), (q1, .inl (cy 7, 60, .inr (.inr (.inr (.inr (fun k => some (r k)))))))] ++ (List.range 60).map (fun i => (r i, .inr (4, [.int 0, .int 0, .int 0])))
theorem wLoF_kw {cy : Nat → ClassId} {S : Nat → Nat → Nat} : kw S (shA cy S) (fun _ _ _ => 0) (fun _ _ _ => 0) (fun _ _ _ => none) ([(4, 0), (16, 0)] ++ (List.range 60).map (fun i => (18, i))) = wLoF cy (S 4 0) (S 16 0) (fun i => S 18 i) := by
  rw [kw_app]
  unfold kw
  rw [List.map_map]
  rfl
theorem up_if {r : Nat → Nat} {j q : Nat} : va_up (fun k => if k < j then some (r k) else none) j (some q) = (fun k => if k < j + 1 then some (if k = j then q else r k) else none) := by
  funext k
  unfold va_up
  by_cases e : k = j
  · simp [e]
  · by_cases h : k < j
    · simp [e, h, show k < j + 1 by omega]
    · simp [e, h, show ¬ k < j + 1 by omega]
theorem rows_up {r : Nat → Nat} {j q : Nat} {f : va_E} : (List.range j).map (fun i => (r i, f)) ++ [(q, f)] = (List.range (j + 1)).map (fun i => ((if i = j then q else r i), f)) := by
  rw [List.range_succ, List.map_append]
  congr 1
  · refine List.map_congr_left fun i hi => ?_
    have := List.mem_range.mp hi
    rw [if_neg (by omega)]
  · simp
theorem X4_loop {cy : Nat → ClassId} {b : Nat} {q1 : Nat} : ∀ (f j : Nat) (r : Nat → Nat), j + f = 60 → J RX4 "<init>" cX4_init 2 none 2 61 240 cy (fun r w' => r = none ∧ ∃ q1 r, w' = wLoF cy b q1 r) (fun _ _ => False) 15 [(0, .ref b), (1, .int (nI j))] [] (wLoJ cy b q1 r j) (1 + j) (60 + 3 * j) := by
  intro f
  induction f with
  | zero =>
    intro j r hj
    obtain rfl : j = 60 := by omega
    refine J_iload_n 1 rfl dX4_init_15 ?_
    refine J_aload_n 0 rfl dX4_init_16 ?_
    refine J_getR (C := RX4) (T := TX4) (N := 4) (ci := 6) (f := 0) (fs := [.ref q1, .int 0, .int 0, .int 0]) (v := .ref q1) 0 rfl rfl kin4 (by decide) lf_4_11 rfl dX4_init_17 ?_
    refine J_alenR (v := nI 60) 1 7 rfl rfl rfl dX4_init_20 ?_
    refine J_icmp_ge 43 (by decide) dX4_init_21 (fun c1 => ?_) (fun c1 => absurd (by decide) c1)
    refine J_arr (q0 := 1) (g := fun k => some (r k)) rfl (fun k hk => if_pos hk) ?_
    exact J_return rfl dX4_init_43 ⟨rfl, q1, r, rfl⟩ (by decide) (by decide)
  | succ f ih =>
    intro j r hj
    refine J_iload_n 1 rfl dX4_init_15 ?_
    refine J_aload_n 0 rfl dX4_init_16 ?_
    refine J_getR (C := RX4) (T := TX4) (N := 4) (ci := 6) (f := 0) (fs := [.ref q1, .int 0, .int 0, .int 0]) (v := .ref q1) 0 rfl rfl kin4 (by decide) lf_4_11 rfl dX4_init_17 ?_
    refine J_alenR (v := nI 60) 1 7 rfl rfl rfl dX4_init_20 ?_
    refine J_icmp_ge 43 (by decide) dX4_init_21 (fun c1 => ?_) (fun c1 => ?_)
    · have := (nI_leI (a := 60) (b := j) (by omega) (by omega)).mp c1
      omega
    refine J_aload_n 0 rfl dX4_init_24 ?_
    refine J_getR (C := RX4) (T := TX4) (N := 4) (ci := 6) (f := 0) (fs := [.ref q1, .int 0, .int 0, .int 0]) (v := .ref q1) 0 rfl rfl kin4 (by decide) lf_4_11 rfl dX4_init_25 ?_
    refine J_iload_n 1 rfl dX4_init_28 ?_
    refine J_new (ci := 4) (C := RX2) (T := TX2) (N := 3) kin2 tyX2 tyX2_ok lk_4_9 li_2 kini2 rfl (fs := [.int 0, .int 0, .int 0]) (by decide +kernel) (by omega) (by omega) dX4_init_29 (fun q hq => ?_)
    refine J_dup rfl dX4_init_32 ?_
    refine J_callIN (b := q) (As := []) (rest := [.ref q, .int (nI j), .ref q1]) (wLoJ cy b q1 r j) [] dX4_init_33 (c_X2_init (b := q) (fs := [.int 0, .int 0, .int 0])) rfl (by decide) kc_yX2_init kini2 ki_yX2_init rfl kd_yX2_init ⟨by decide, by decide⟩ (by omega) (by omega) (Nat.le_of_ble_eq_true rfl) (fun r9 w9 h9 => ?_)
    obtain ⟨rfl, rfl⟩ := h9
    refine J_eq (w' := wLoJ cy b q1 r j ++ [(q, .inr (4, [.int 0, .int 0, .int 0]))]) (lv' := [(0, .ref b), (1, .int (nI j))]) (st' := [.ref q, .int (nI j), .ref q1]) rfl rfl rfl ?_
    refine J_aastR2 (C := RX2) (T := TX2) (N := 3) (ci := 4) (vs := [.int 0, .int 0, .int 0]) 1 (wLoJ cy b q1 r j).length 7 j rfl rfl (by simp) rfl (vp_in_nI (by omega) (by decide)) (nI_toNat (by omega)) dX4_init_36 ?_
    refine J_iinc (n := 1) (v := nI (j + 1)) 1 rfl (nI_1 j) (by decide) rfl dX4_init_37 ?_
    refine J_goto 15 (by decide) dX4_init_40 ?_
    refine J_widen (k := 1 + (j + 1)) (n := 60 + 3 * (j + 1)) (by omega) (by omega) ?_
    refine J_eq ?_ rfl rfl (ih (j + 1) (fun i => if i = j then q else r i) (by omega))
    unfold wLoJ
    rw [← up_if, ← rows_up, List.append_assoc]
    rfl
theorem c_X4_init {cy : Nat → ClassId} {b : Nat} : Con yX4_init cX4_init 2 none 2 61 240 cy [.ref b] [(b, .inr (6, [.null, .int 0, .int 0, .int 0]))] (fun r w' => r = none ∧ ∃ q1 r, w' = wLoF cy b q1 r) (fun _ _ => False) := by
  refine Con_of (by decide +kernel) (Nat.le_of_ble_eq_true rfl) ?_
  refine J_eq (lv' := [(0, .ref b)]) rfl rfl rfl ?_
  refine J_aload_n 0 rfl dX4_init_0 ?_
  refine J_objInit lo_4_3 (by decide) (by decide) dX4_init_1 ?_
  refine J_aload_n 0 rfl dX4_init_4 ?_
  refine J_bipush (v := 60) (by decide) dX4_init_5 ?_
  refine J_newqR (C := "FoghornExchange$Entry") (N' := 60) 7 rfl lk_4_9 (by decide) (by decide) (by decide) (by decide) (by decide) (by decide) dX4_init_7 (fun q1 => ?_)
  refine J_putR (C := RX4) (T := TX4) (N := 4) (ci := 6) (f := 0) (fs := [.null, .int 0, .int 0, .int 0]) 0 rfl rfl kin4 tyX4 tyX4_ok nmX4 (by decide) lf_4_11 rfl rfl rfl (tyX4_ok 0 (by decide)) rfl rfl (Nat.le_of_ble_eq_true rfl) dX4_init_10 ?_
  refine J_eq (w' := [(b, .inr (6, [.ref q1, .int 0, .int 0, .int 0])), (q1, .inl (cy 7, 60, .inr (.inr (.inr (.inr (fun _ => none))))))]) (lv' := [(0, .ref b)]) (st' := []) rfl rfl rfl ?_
  refine J_iconst (v := 0) (by decide) dX4_init_13 ?_
  refine J_istore_n (lv' := [(0, .ref b), (1, .int 0)]) (by decide) rfl dX4_init_14 ?_
  refine J_eq (w' := wLoJ cy b q1 (fun _ => 0) 0) (lv' := [(0, .ref b), (1, .int (nI 0))]) (st' := []) ?_ rfl rfl (X4_loop 60 0 (fun _ => 0) rfl)
  unfold wLoJ
  simp
def wCoJ (cy : Nat → ClassId) (b q1 q2 q3 q4 h0 : Nat) (r : Nat → Nat) (j : Nat) : va_W := [(b, .inr (3, [.ref q1, .ref q2, .ref q3, .ref q4, .ref h0, .int 0])), (q1, .inl (cy 6, 10, .inr (.inr (.inr (.inr (fun k => if k < j then some (r k) else none)))))), (q2, .inl (cy 0, 10, .inl (fun _ => 0))), (q3, .inl (cy 0, 10, .inl (fun _ => 0))), (q4, .inl (cy 0, 10, .inl (fun _ => 0))), (h0, .inl (cy 8, 10, .inr (.inr (.inr (.inr (fun i => if i < 10 then some (h0 + 1 + i) else none))))))] ++ ((List.range 10).map (fun i => ((fun i => h0 + 1 + i) i, .inl (cy 0, 10, .inl (fun _ => 0)))) ++ (List.range j).map (fun i => (r i, .inr (8, [.int 0, .int 0, .int 0, .int 0, .int 0, .int 0]))))
def wCoF (cy : Nat → ClassId) (b q1 q2 q3 q4 h0 : Nat) (rw r : Nat → Nat) : va_W := [(b, .inr (3, [.ref q1, .ref q2, .ref q3, .ref q4, .ref h0, .int 0])), (q1, .inl (cy 6, 10, .inr (.inr (.inr (.inr (fun k => some (r k))))))), (q2, .inl (cy 0, 10, .inl (fun _ => 0))), (q3, .inl (cy 0, 10, .inl (fun _ => 0))), (q4, .inl (cy 0, 10, .inl (fun _ => 0))), (h0, .inl (cy 8, 10, .inr (.inr (.inr (.inr (fun i => some (rw i)))))))] ++ ((List.range 10).map (fun i => (rw i, .inl (cy 0, 10, .inl (fun _ => 0)))) ++ (List.range 10).map (fun i => (r i, .inr (8, [.int 0, .int 0, .int 0, .int 0, .int 0, .int 0]))))
theorem wCoF_kw {cy : Nat → ClassId} {S : Nat → Nat → Nat} : kw S (shA cy S) (fun _ _ _ => 0) (fun _ _ _ => 0) (fun _ _ _ => none) ([(1, 0), (6, 0), (7, 0), (8, 0), (9, 0), (10, 0)] ++ ((List.range 10).map (fun i => (11, i)) ++ (List.range 10).map (fun i => (17, i)))) = wCoF cy (S 1 0) (S 6 0) (S 7 0) (S 8 0) (S 9 0) (S 10 0) (fun i => S 11 i) (fun i => S 17 i) := by
  rw [kw_app, kw_app]
  unfold kw
  rw [List.map_map, List.map_map]
  rfl
theorem X1_loop {cy : Nat → ClassId} {b : Nat} {q1 q2 q3 q4 h0 : Nat} : ∀ (f j : Nat) (r : Nat → Nat), j + f = 10 → J RX1 "<init>" cX1_init 2 none 2 25 210 cy (fun r w' => r = none ∧ ∃ q1 q2 q3 q4 h0 rw r, w' = wCoF cy b q1 q2 q3 q4 h0 rw r) (fun _ _ => False) 51 [(0, .ref b), (1, .int (nI j))] [] (wCoJ cy b q1 q2 q3 q4 h0 r j) (15 + j) (150 + 6 * j) := by
  intro f
  induction f with
  | zero =>
    intro j r hj
    obtain rfl : j = 10 := by omega
    refine J_iload_n 1 rfl dX1_init_51 ?_
    refine J_aload_n 0 rfl dX1_init_52 ?_
    refine J_getR (C := RX1) (T := TX1) (N := 6) (ci := 3) (f := 0) (fs := [.ref q1, .ref q2, .ref q3, .ref q4, .ref h0, .int 0]) (v := .ref q1) 0 rfl rfl kin1 (by decide) lf_1_11 rfl dX1_init_53 ?_
    refine J_alenR (v := nI 10) 1 6 rfl rfl rfl dX1_init_56 ?_
    refine J_icmp_ge 79 (by decide) dX1_init_57 (fun c1 => ?_) (fun c1 => absurd (by decide) c1)
    refine J_arr (q0 := 1) (g := fun k => some (r k)) rfl (fun k hk => if_pos hk) ?_
    refine J_arr (q0 := 5) (g := fun i => some (h0 + 1 + i)) rfl (fun k hk => if_pos hk) ?_
    exact J_return rfl dX1_init_79 ⟨rfl, q1, q2, q3, q4, h0, (fun i => h0 + 1 + i), r, rfl⟩ (by decide) (by decide)
  | succ f ih =>
    intro j r hj
    refine J_iload_n 1 rfl dX1_init_51 ?_
    refine J_aload_n 0 rfl dX1_init_52 ?_
    refine J_getR (C := RX1) (T := TX1) (N := 6) (ci := 3) (f := 0) (fs := [.ref q1, .ref q2, .ref q3, .ref q4, .ref h0, .int 0]) (v := .ref q1) 0 rfl rfl kin1 (by decide) lf_1_11 rfl dX1_init_53 ?_
    refine J_alenR (v := nI 10) 1 6 rfl rfl rfl dX1_init_56 ?_
    refine J_icmp_ge 79 (by decide) dX1_init_57 (fun c1 => ?_) (fun c1 => ?_)
    · have := (nI_leI (a := 10) (b := j) (by omega) (by omega)).mp c1
      omega
    refine J_aload_n 0 rfl dX1_init_60 ?_
    refine J_getR (C := RX1) (T := TX1) (N := 6) (ci := 3) (f := 0) (fs := [.ref q1, .ref q2, .ref q3, .ref q4, .ref h0, .int 0]) (v := .ref q1) 0 rfl rfl kin1 (by decide) lf_1_11 rfl dX1_init_61 ?_
    refine J_iload_n 1 rfl dX1_init_64 ?_
    refine J_new (ci := 8) (C := RX6) (T := TX6) (N := 6) kin6 tyX6 tyX6_ok lk_1_9 li_6 kini6 rfl (fs := [.int 0, .int 0, .int 0, .int 0, .int 0, .int 0]) (by decide +kernel) (by omega) (by omega) dX1_init_65 (fun q hq => ?_)
    refine J_dup rfl dX1_init_68 ?_
    refine J_callIN (b := q) (As := []) (rest := [.ref q, .int (nI j), .ref q1]) (wCoJ cy b q1 q2 q3 q4 h0 r j) [] dX1_init_69 (c_X6_init (b := q) (fs := [.int 0, .int 0, .int 0, .int 0, .int 0, .int 0])) rfl (by decide) kc_yX6_init kini6 ki_yX6_init rfl kd_yX6_init ⟨by decide, by decide⟩ (by omega) (by omega) (Nat.le_of_ble_eq_true rfl) (fun r9 w9 h9 => ?_)
    obtain ⟨rfl, rfl⟩ := h9
    refine J_eq (w' := wCoJ cy b q1 q2 q3 q4 h0 r j ++ [(q, .inr (8, [.int 0, .int 0, .int 0, .int 0, .int 0, .int 0]))]) (lv' := [(0, .ref b), (1, .int (nI j))]) (st' := [.ref q, .int (nI j), .ref q1]) rfl rfl rfl ?_
    refine J_aastR2 (C := RX6) (T := TX6) (N := 6) (ci := 8) (vs := [.int 0, .int 0, .int 0, .int 0, .int 0, .int 0]) 1 (wCoJ cy b q1 q2 q3 q4 h0 r j).length 6 j rfl rfl (by simp) rfl (vp_in_nI (by omega) (by decide)) (nI_toNat (by omega)) dX1_init_72 ?_
    refine J_iinc (n := 1) (v := nI (j + 1)) 1 rfl (nI_1 j) (by decide) rfl dX1_init_73 ?_
    refine J_goto 51 (by decide) dX1_init_76 ?_
    refine J_widen (k := 15 + (j + 1)) (n := 150 + 6 * (j + 1)) (by omega) (by omega) ?_
    refine J_eq ?_ rfl rfl (ih (j + 1) (fun i => if i = j then q else r i) (by omega))
    unfold wCoJ
    rw [← up_if, ← rows_up, List.append_assoc, List.append_assoc]
    rfl
theorem c_X1_init {cy : Nat → ClassId} {b : Nat} : Con yX1_init cX1_init 2 none 2 25 210 cy [.ref b] [(b, .inr (3, [.null, .null, .null, .null, .null, .int 0]))] (fun r w' => r = none ∧ ∃ q1 q2 q3 q4 h0 rw r, w' = wCoF cy b q1 q2 q3 q4 h0 rw r) (fun _ _ => False) := by
  refine Con_of (by decide +kernel) (Nat.le_of_ble_eq_true rfl) ?_
  refine J_eq (lv' := [(0, .ref b)]) rfl rfl rfl ?_
  refine J_aload_n 0 rfl dX1_init_0 ?_
  refine J_objInit lo_1_3 (by decide) (by decide) dX1_init_1 ?_
  refine J_aload_n 0 rfl dX1_init_4 ?_
  refine J_bipush (v := 10) (by decide) dX1_init_5 ?_
  refine J_newqR (C := "FoghornExchange$Station") (N' := 10) 6 rfl lk_1_9 (by decide) (by decide) (by decide) (by decide) (by decide) (by decide) dX1_init_7 (fun q1 => ?_)
  refine J_putR (C := RX1) (T := TX1) (N := 6) (ci := 3) (f := 0) (fs := [.null, .null, .null, .null, .null, .int 0]) 0 rfl rfl kin1 tyX1 tyX1_ok nmX1 (by decide) lf_1_11 rfl rfl rfl (tyX1_ok 0 (by decide)) rfl rfl (Nat.le_of_ble_eq_true rfl) dX1_init_10 ?_
  refine J_eq (w' := [(b, .inr (3, [.ref q1, .null, .null, .null, .null, .int 0])), (q1, .inl (cy 6, 10, .inr (.inr (.inr (.inr (fun _ => none))))))]) (lv' := [(0, .ref b)]) (st' := []) rfl rfl rfl ?_
  refine J_aload_n 0 rfl dX1_init_13 ?_
  refine J_bipush (v := 10) (by decide) dX1_init_14 ?_
  refine J_newaR (N' := 10) (a0 := (10, .inl (fun _ => 0))) 0 rfl lar_int rfl (fun _ => rfl) (by decide) (by decide) (by decide) (by decide) (by decide) dX1_init_16 (fun q2 => ?_)
  refine J_putR (C := RX1) (T := TX1) (N := 6) (ci := 3) (f := 1) (fs := [.ref q1, .null, .null, .null, .null, .int 0]) 0 rfl rfl kin1 tyX1 tyX1_ok nmX1 (by decide) lf_1_17 rfl rfl rfl (tyX1_ok 1 (by decide)) rfl rfl (Nat.le_of_ble_eq_true rfl) dX1_init_18 ?_
  refine J_eq (w' := [(b, .inr (3, [.ref q1, .ref q2, .null, .null, .null, .int 0])), (q1, .inl (cy 6, 10, .inr (.inr (.inr (.inr (fun _ => none)))))), (q2, .inl (cy 0, 10, .inl (fun _ => 0)))]) (lv' := [(0, .ref b)]) (st' := []) rfl rfl rfl ?_
  refine J_aload_n 0 rfl dX1_init_21 ?_
  refine J_bipush (v := 10) (by decide) dX1_init_22 ?_
  refine J_newaR (N' := 10) (a0 := (10, .inl (fun _ => 0))) 0 rfl lar_int rfl (fun _ => rfl) (by decide) (by decide) (by decide) (by decide) (by decide) dX1_init_24 (fun q3 => ?_)
  refine J_putR (C := RX1) (T := TX1) (N := 6) (ci := 3) (f := 2) (fs := [.ref q1, .ref q2, .null, .null, .null, .int 0]) 0 rfl rfl kin1 tyX1 tyX1_ok nmX1 (by decide) lf_1_21 rfl rfl rfl (tyX1_ok 2 (by decide)) rfl rfl (Nat.le_of_ble_eq_true rfl) dX1_init_26 ?_
  refine J_eq (w' := [(b, .inr (3, [.ref q1, .ref q2, .ref q3, .null, .null, .int 0])), (q1, .inl (cy 6, 10, .inr (.inr (.inr (.inr (fun _ => none)))))), (q2, .inl (cy 0, 10, .inl (fun _ => 0))), (q3, .inl (cy 0, 10, .inl (fun _ => 0)))]) (lv' := [(0, .ref b)]) (st' := []) rfl rfl rfl ?_
  refine J_aload_n 0 rfl dX1_init_29 ?_
  refine J_bipush (v := 10) (by decide) dX1_init_30 ?_
  refine J_newaR (N' := 10) (a0 := (10, .inl (fun _ => 0))) 0 rfl lar_int rfl (fun _ => rfl) (by decide) (by decide) (by decide) (by decide) (by decide) dX1_init_32 (fun q4 => ?_)
  refine J_putR (C := RX1) (T := TX1) (N := 6) (ci := 3) (f := 3) (fs := [.ref q1, .ref q2, .ref q3, .null, .null, .int 0]) 0 rfl rfl kin1 tyX1 tyX1_ok nmX1 (by decide) lf_1_24 rfl rfl rfl (tyX1_ok 3 (by decide)) rfl rfl (Nat.le_of_ble_eq_true rfl) dX1_init_34 ?_
  refine J_eq (w' := [(b, .inr (3, [.ref q1, .ref q2, .ref q3, .ref q4, .null, .int 0])), (q1, .inl (cy 6, 10, .inr (.inr (.inr (.inr (fun _ => none)))))), (q2, .inl (cy 0, 10, .inl (fun _ => 0))), (q3, .inl (cy 0, 10, .inl (fun _ => 0))), (q4, .inl (cy 0, 10, .inl (fun _ => 0)))]) (lv' := [(0, .ref b)]) (st' := []) rfl rfl rfl ?_
  refine J_aload_n 0 rfl dX1_init_37 ?_
  refine J_bipush (v := 10) (by decide) dX1_init_38 ?_
  refine J_bipush (v := 10) (by decide) dX1_init_40 ?_
  refine J_mnaR (N' := 10) (K' := 10) lk_1_27 lar_int (by decide) (by decide) (by decide) (by decide) (by decide) (by decide) (by decide) (by decide) (by decide) dX1_init_42 (fun h0 => ?_)
  refine J_putR (C := RX1) (T := TX1) (N := 6) (ci := 3) (f := 4) (fs := [.ref q1, .ref q2, .ref q3, .ref q4, .null, .int 0]) 0 rfl rfl kin1 tyX1 tyX1_ok nmX1 (by decide) lf_1_29 rfl rfl rfl (tyX1_ok 4 (by decide)) rfl rfl (Nat.le_of_ble_eq_true rfl) dX1_init_46 ?_
  refine J_eq (w' := wCoJ cy b q1 q2 q3 q4 h0 (fun _ => 0) 0) (lv' := [(0, .ref b)]) (st' := []) rfl rfl rfl ?_
  refine J_iconst (v := 0) (by decide) dX1_init_49 ?_
  refine J_istore_n (lv' := [(0, .ref b), (1, .int 0)]) (by decide) rfl dX1_init_50 ?_
  exact J_eq rfl rfl rfl (X1_loop 10 0 (fun _ => 0) rfl)
def NLx : List (Nat × Nat) := ((((([(0, 0)] ++ ([(1, 0), (6, 0), (7, 0), (8, 0), (9, 0), (10, 0)] ++ ((List.range 10).map (fun i => (11, i)) ++ (List.range 10).map (fun i => (17, i))))) ++ [(2, 0), (12, 0), (13, 0)]) ++ [(3, 0), (14, 0), (15, 0)]) ++ ([(4, 0), (16, 0)] ++ (List.range 60).map (fun i => (18, i)))) ++ [(5, 0)])
theorem NLx_perm : NLx.Perm (NLc []) := by decide +kernel
def kS7 (b p1 p3 p0 p4 p5 c1 c2 c3 c4 c5 l1 l2 h1 h2 g1 : Nat) (c6 c7 g2 : Nat → Nat) : Nat → Nat → Nat := fun k i => match k with | 0 => b | 1 => p1 | 2 => p3 | 3 => p0 | 4 => p4 | 5 => p5 | 6 => c1 | 7 => c2 | 8 => c3 | 9 => c4 | 10 => c5 | 11 => c6 i | 12 => l1 | 13 => l2 | 14 => h1 | 15 => h2 | 16 => g1 | 17 => c7 i | 18 => g2 i | _ => i
theorem kw7 {cy : Nat → ClassId} {S : Nat → Nat → Nat} : kw S (shA cy S) (fun _ _ _ => 0) (fun _ _ _ => 0) (fun _ _ _ => none) NLx = ((((([((S 0 0), .inr (9, [.ref (S 1 0), .ref (S 2 0), .ref (S 3 0), .ref (S 4 0), .ref (S 5 0), .int 0, .int 0, .int 0, .long 0, .long 0, .int 0]))] ++ wCoF cy (S 1 0) (S 6 0) (S 7 0) (S 8 0) (S 9 0) (S 10 0) (fun i => S 11 i) (fun i => S 17 i)) ++ wLi cy (S 2 0) (S 12 0) (S 13 0)) ++ wCh cy (S 3 0) (S 14 0) (S 15 0)) ++ wLoF cy (S 4 0) (S 16 0) (fun i => S 18 i)) ++ [((S 5 0), .inl (cy 5, 150, .inr (.inr (.inr (.inr (fun _ => none))))))]) := by
  unfold NLx
  rw [kw_app, kw_app, kw_app, kw_app, kw_app, wCoF_kw, wLi_kw, wCh_kw, wLoF_kw]
  rfl
theorem c_X7_init {cy : Nat → ClassId} {b : Nat} : Con yX7_init cX7_init 1 none 3 95 669 cy [.ref b] [(b, .inr (9, [.null, .null, .null, .null, .null, .int 0, .int 0, .int 0, .long 0, .long 0, .int 0]))] (fun r w' => r = none ∧ ∃ S, S 0 0 = b ∧ w' = wc cy S (fun _ _ _ => 0) (fun _ _ _ => 0) (fun _ _ _ => none) []) (fun _ _ => False) := by
  refine Con_of (by decide +kernel) (Nat.le_of_ble_eq_true rfl) ?_
  refine J_eq (lv' := [(0, .ref b)]) rfl rfl rfl ?_
  refine J_aload_n 0 rfl dX7_init_0 ?_
  refine J_objInit lo_7_1 (by decide) (by decide) dX7_init_1 ?_
  refine J_aload_n 0 rfl dX7_init_4 ?_
  refine J_new (ci := 3) (C := RX1) (T := TX1) (N := 6) kin1 tyX1 tyX1_ok lk_7_7 li_1 kini1 rfl (fs := [.null, .null, .null, .null, .null, .int 0]) (by decide +kernel) (by decide) (by decide) dX7_init_5 (fun p1 _ => ?_)
  refine J_dup rfl dX7_init_8 ?_
  refine J_callI (b := p1) (As := []) (rest := [.ref p1, .ref b]) [(b, .inr (9, [.null, .null, .null, .null, .null, .int 0, .int 0, .int 0, .long 0, .long 0, .int 0]))] [] dX7_init_9 (c_X1_init (b := p1)) rfl lm_7_9 kc_yX1_init kini1 ki_yX1_init rfl kd_yX1_init ⟨by decide, by decide⟩ (by decide) (by decide) (Nat.le_of_ble_eq_true rfl) (fun r1 w1 h1 => ?_)
  obtain ⟨rfl, c1, c2, c3, c4, c5, c6, c7, rfl⟩ := h1
  refine J_eq (w' := ([(b, .inr (9, [.null, .null, .null, .null, .null, .int 0, .int 0, .int 0, .long 0, .long 0, .int 0]))] ++ wCoF cy p1 c1 c2 c3 c4 c5 c6 c7)) (lv' := [(0, .ref b)]) (st' := [.ref p1, .ref b]) (by rw [List.append_nil]) rfl rfl ?_
  refine J_putR (C := RX7) (T := TX7) (N := 11) (ci := 9) (f := 0) (fs := [.null, .null, .null, .null, .null, .int 0, .int 0, .int 0, .long 0, .long 0, .int 0]) 0 rfl rfl kin7 tyX7 tyX7_ok nmX7 (by decide) lf_7_10 rfl rfl rfl (tyX7_ok 0 (by decide)) rfl rfl (Nat.le_of_ble_eq_true rfl) dX7_init_12 ?_
  refine J_eq (w' := ([(b, .inr (9, [.ref p1, .null, .null, .null, .null, .int 0, .int 0, .int 0, .long 0, .long 0, .int 0]))] ++ wCoF cy p1 c1 c2 c3 c4 c5 c6 c7)) (lv' := [(0, .ref b)]) (st' := []) rfl rfl rfl ?_
  refine J_aload_n 0 rfl dX7_init_15 ?_
  refine J_new (ci := 5) (C := RX3) (T := TX3) (N := 3) kin3 tyX3 tyX3_ok lk_7_16 li_3 kini3 rfl (fs := [.null, .null, .int 0]) (by decide +kernel) (by decide) (by decide) dX7_init_16 (fun p3 _ => ?_)
  refine J_dup rfl dX7_init_19 ?_
  refine J_callIN (b := p3) (As := []) (rest := [.ref p3, .ref b]) ([(b, .inr (9, [.ref p1, .null, .null, .null, .null, .int 0, .int 0, .int 0, .long 0, .long 0, .int 0]))] ++ wCoF cy p1 c1 c2 c3 c4 c5 c6 c7) [] dX7_init_20 (c_X3_init (b := p3)) rfl (by decide) kc_yX3_init kini3 ki_yX3_init rfl kd_yX3_init ⟨by decide, by decide⟩ (by decide) (by decide) (Nat.le_of_ble_eq_true rfl) (fun r3 w3 h3 => ?_)
  obtain ⟨rfl, l1, l2, rfl⟩ := h3
  refine J_eq (w' := (([(b, .inr (9, [.ref p1, .null, .null, .null, .null, .int 0, .int 0, .int 0, .long 0, .long 0, .int 0]))] ++ wCoF cy p1 c1 c2 c3 c4 c5 c6 c7) ++ wLi cy p3 l1 l2)) (lv' := [(0, .ref b)]) (st' := [.ref p3, .ref b]) (by rw [List.append_nil]) rfl rfl ?_
  refine J_putR (C := RX7) (T := TX7) (N := 11) (ci := 9) (f := 1) (fs := [.ref p1, .null, .null, .null, .null, .int 0, .int 0, .int 0, .long 0, .long 0, .int 0]) 0 rfl rfl kin7 tyX7 tyX7_ok nmX7 (by decide) lf_7_19 rfl rfl rfl (tyX7_ok 1 (by decide)) rfl rfl (Nat.le_of_ble_eq_true rfl) dX7_init_23 ?_
  refine J_eq (w' := (([(b, .inr (9, [.ref p1, .ref p3, .null, .null, .null, .int 0, .int 0, .int 0, .long 0, .long 0, .int 0]))] ++ wCoF cy p1 c1 c2 c3 c4 c5 c6 c7) ++ wLi cy p3 l1 l2)) (lv' := [(0, .ref b)]) (st' := []) rfl rfl rfl ?_
  refine J_aload_n 0 rfl dX7_init_26 ?_
  refine J_new (ci := 2) (C := RX0) (T := TX0) (N := 2) kin0 tyX0 tyX0_ok lk_7_23 li_0 kini0 rfl (fs := [.null, .null]) (by decide +kernel) (by decide) (by decide) dX7_init_27 (fun p0 _ => ?_)
  refine J_dup rfl dX7_init_30 ?_
  refine J_callIN (b := p0) (As := []) (rest := [.ref p0, .ref b]) (([(b, .inr (9, [.ref p1, .ref p3, .null, .null, .null, .int 0, .int 0, .int 0, .long 0, .long 0, .int 0]))] ++ wCoF cy p1 c1 c2 c3 c4 c5 c6 c7) ++ wLi cy p3 l1 l2) [] dX7_init_31 (c_X0_init (b := p0)) rfl (by decide) kc_yX0_init kini0 ki_yX0_init rfl kd_yX0_init ⟨by decide, by decide⟩ (by decide) (by decide) (Nat.le_of_ble_eq_true rfl) (fun r0 w0 h0 => ?_)
  obtain ⟨rfl, h1, h2, rfl⟩ := h0
  refine J_eq (w' := ((([(b, .inr (9, [.ref p1, .ref p3, .null, .null, .null, .int 0, .int 0, .int 0, .long 0, .long 0, .int 0]))] ++ wCoF cy p1 c1 c2 c3 c4 c5 c6 c7) ++ wLi cy p3 l1 l2) ++ wCh cy p0 h1 h2)) (lv' := [(0, .ref b)]) (st' := [.ref p0, .ref b]) (by rw [List.append_nil]) rfl rfl ?_
  refine J_putR (C := RX7) (T := TX7) (N := 11) (ci := 9) (f := 2) (fs := [.ref p1, .ref p3, .null, .null, .null, .int 0, .int 0, .int 0, .long 0, .long 0, .int 0]) 0 rfl rfl kin7 tyX7 tyX7_ok nmX7 (by decide) lf_7_26 rfl rfl rfl (tyX7_ok 2 (by decide)) rfl rfl (Nat.le_of_ble_eq_true rfl) dX7_init_34 ?_
  refine J_eq (w' := ((([(b, .inr (9, [.ref p1, .ref p3, .ref p0, .null, .null, .int 0, .int 0, .int 0, .long 0, .long 0, .int 0]))] ++ wCoF cy p1 c1 c2 c3 c4 c5 c6 c7) ++ wLi cy p3 l1 l2) ++ wCh cy p0 h1 h2)) (lv' := [(0, .ref b)]) (st' := []) rfl rfl rfl ?_
  refine J_aload_n 0 rfl dX7_init_37 ?_
  refine J_new (ci := 6) (C := RX4) (T := TX4) (N := 4) kin4 tyX4 tyX4_ok lk_7_30 li_4 kini4 rfl (fs := [.null, .int 0, .int 0, .int 0]) (by decide +kernel) (by decide) (by decide) dX7_init_38 (fun p4 _ => ?_)
  refine J_dup rfl dX7_init_41 ?_
  refine J_callI (b := p4) (As := []) (rest := [.ref p4, .ref b]) ((([(b, .inr (9, [.ref p1, .ref p3, .ref p0, .null, .null, .int 0, .int 0, .int 0, .long 0, .long 0, .int 0]))] ++ wCoF cy p1 c1 c2 c3 c4 c5 c6 c7) ++ wLi cy p3 l1 l2) ++ wCh cy p0 h1 h2) [] dX7_init_42 (c_X4_init (b := p4)) rfl lm_7_32 kc_yX4_init kini4 ki_yX4_init rfl kd_yX4_init ⟨by decide, by decide⟩ (by decide) (by decide) (Nat.le_of_ble_eq_true rfl) (fun r4 w4 h4 => ?_)
  obtain ⟨rfl, g1, g2, rfl⟩ := h4
  refine J_eq (w' := (((([(b, .inr (9, [.ref p1, .ref p3, .ref p0, .null, .null, .int 0, .int 0, .int 0, .long 0, .long 0, .int 0]))] ++ wCoF cy p1 c1 c2 c3 c4 c5 c6 c7) ++ wLi cy p3 l1 l2) ++ wCh cy p0 h1 h2) ++ wLoF cy p4 g1 g2)) (lv' := [(0, .ref b)]) (st' := [.ref p4, .ref b]) (by rw [List.append_nil]) rfl rfl ?_
  refine J_putR (C := RX7) (T := TX7) (N := 11) (ci := 9) (f := 3) (fs := [.ref p1, .ref p3, .ref p0, .null, .null, .int 0, .int 0, .int 0, .long 0, .long 0, .int 0]) 0 rfl rfl kin7 tyX7 tyX7_ok nmX7 (by decide) lf_7_33 rfl rfl rfl (tyX7_ok 3 (by decide)) rfl rfl (Nat.le_of_ble_eq_true rfl) dX7_init_45 ?_
  refine J_eq (w' := (((([(b, .inr (9, [.ref p1, .ref p3, .ref p0, .ref p4, .null, .int 0, .int 0, .int 0, .long 0, .long 0, .int 0]))] ++ wCoF cy p1 c1 c2 c3 c4 c5 c6 c7) ++ wLi cy p3 l1 l2) ++ wCh cy p0 h1 h2) ++ wLoF cy p4 g1 g2)) (lv' := [(0, .ref b)]) (st' := []) rfl rfl rfl ?_
  refine J_aload_n 0 rfl dX7_init_48 ?_
  refine J_sipush (v := 150) (by decide) dX7_init_49 ?_
  refine J_newqR (C := "FoghornExchange$RadioCall") (N' := 150) 5 rfl lc_7_37 (by decide) (by decide) (by decide) (by decide) (by decide) (by decide) dX7_init_52 (fun p5 => ?_)
  refine J_putR (C := RX7) (T := TX7) (N := 11) (ci := 9) (f := 4) (fs := [.ref p1, .ref p3, .ref p0, .ref p4, .null, .int 0, .int 0, .int 0, .long 0, .long 0, .int 0]) 0 rfl rfl kin7 tyX7 tyX7_ok nmX7 (by decide) lf_7_39 rfl rfl rfl (tyX7_ok 4 (by decide)) rfl rfl (Nat.le_of_ble_eq_true rfl) dX7_init_55 ?_
  refine J_eq (w' := ((((([(b, .inr (9, [.ref p1, .ref p3, .ref p0, .ref p4, .ref p5, .int 0, .int 0, .int 0, .long 0, .long 0, .int 0]))] ++ wCoF cy p1 c1 c2 c3 c4 c5 c6 c7) ++ wLi cy p3 l1 l2) ++ wCh cy p0 h1 h2) ++ wLoF cy p4 g1 g2) ++ [(p5, .inl (cy 5, 150, .inr (.inr (.inr (.inr (fun _ => none))))))])) (lv' := [(0, .ref b)]) (st' := []) rfl rfl rfl ?_
  refine J_eq (w' := kw (kS7 b p1 p3 p0 p4 p5 c1 c2 c3 c4 c5 l1 l2 h1 h2 g1 c6 c7 g2) (shA cy (kS7 b p1 p3 p0 p4 p5 c1 c2 c3 c4 c5 l1 l2 h1 h2 g1 c6 c7 g2)) (fun _ _ _ => 0) (fun _ _ _ => 0) (fun _ _ _ => none) NLx) (by rw [kw7]; rfl) rfl rfl ?_
  refine J_perm (NLx_perm.map _) ?_
  exact J_return rfl dX7_init_58 ⟨rfl, kS7 b p1 p3 p0 p4 p5 c1 c2 c3 c4 c5 l1 l2 h1 h2 g1 c6 c7 g2, rfl, rfl⟩ (by decide) (by decide)
theorem c_X8_init {cy : Nat → ClassId} {b : Nat} : Con yX8_init cX8_init 1 none 1 22 1763 cy [.ref b] [(b, .inr (10, [.int 0, .null, .null, .null, .null, .null, .null, .null, .null, .int 0, .int 0, .null, .null, .null, .null, .null, .null, .null, .null, .null, .null, .int 0, .int 0, .int 0, .null, .long 0, .int 0, .int 0, .null, .null, .null, .int 0]))] (fun r w' => r = none ∧ ∃ S, S 30 0 = b ∧ w' = wm cy S (fun _ _ _ => 0) (fun _ _ _ => 0) (fun _ _ _ => none)) (fun _ _ => False) := by
  refine Con_of (by decide +kernel) (Nat.le_of_ble_eq_true rfl) ?_
  refine J_eq (lv' := [(0, .ref b)]) rfl rfl rfl ?_
  refine J_aload_n 0 rfl dX8_init_0 ?_
  refine J_objInit lo_8_1 (by decide) (by decide) dX8_init_1 ?_
  refine J_aload_n 0 rfl dX8_init_4 ?_
  refine J_bipush (v := 10) (by decide) dX8_init_5 ?_
  refine J_newaR (N' := 10) (a0 := (10, .inl (fun _ => 0))) 0 rfl lar_int rfl (fun _ => rfl) (by decide) (by decide) (by decide) (by decide) (by decide) dX8_init_7 (fun q1 => ?_)
  refine J_putR (C := RX8) (T := TX8) (N := 32) (ci := 10) (f := 1) (fs := [.int 0, .null, .null, .null, .null, .null, .null, .null, .null, .int 0, .int 0, .null, .null, .null, .null, .null, .null, .null, .null, .null, .null, .int 0, .int 0, .int 0, .null, .long 0, .int 0, .int 0, .null, .null, .null, .int 0]) 0 rfl rfl kin8 tyX8 tyX8_ok nmX8 (by decide) lf_8_7 rfl rfl rfl (tyX8_ok 1 (by decide)) rfl rfl (Nat.le_of_ble_eq_true rfl) dX8_init_9 ?_
  refine J_eq (w' := [(b, .inr (10, [.int 0, .ref q1, .null, .null, .null, .null, .null, .null, .null, .int 0, .int 0, .null, .null, .null, .null, .null, .null, .null, .null, .null, .null, .int 0, .int 0, .int 0, .null, .long 0, .int 0, .int 0, .null, .null, .null, .int 0])), (q1, .inl (cy 0, 10, .inl (fun _ => 0)))]) (lv' := [(0, .ref b)]) (st' := []) rfl rfl rfl ?_
  refine J_aload_n 0 rfl dX8_init_12 ?_
  refine J_bipush (v := 10) (by decide) dX8_init_13 ?_
  refine J_newaR (N' := 10) (a0 := (10, .inl (fun _ => 0))) 0 rfl lar_int rfl (fun _ => rfl) (by decide) (by decide) (by decide) (by decide) (by decide) dX8_init_15 (fun q2 => ?_)
  refine J_putR (C := RX8) (T := TX8) (N := 32) (ci := 10) (f := 2) (fs := [.int 0, .ref q1, .null, .null, .null, .null, .null, .null, .null, .int 0, .int 0, .null, .null, .null, .null, .null, .null, .null, .null, .null, .null, .int 0, .int 0, .int 0, .null, .long 0, .int 0, .int 0, .null, .null, .null, .int 0]) 0 rfl rfl kin8 tyX8 tyX8_ok nmX8 (by decide) lf_8_13 rfl rfl rfl (tyX8_ok 2 (by decide)) rfl rfl (Nat.le_of_ble_eq_true rfl) dX8_init_17 ?_
  refine J_eq (w' := [(b, .inr (10, [.int 0, .ref q1, .ref q2, .null, .null, .null, .null, .null, .null, .int 0, .int 0, .null, .null, .null, .null, .null, .null, .null, .null, .null, .null, .int 0, .int 0, .int 0, .null, .long 0, .int 0, .int 0, .null, .null, .null, .int 0])), (q1, .inl (cy 0, 10, .inl (fun _ => 0))), (q2, .inl (cy 0, 10, .inl (fun _ => 0)))]) (lv' := [(0, .ref b)]) (st' := []) rfl rfl rfl ?_
  refine J_aload_n 0 rfl dX8_init_20 ?_
  refine J_bipush (v := 10) (by decide) dX8_init_21 ?_
  refine J_newaR (N' := 10) (a0 := (10, .inl (fun _ => 0))) 2 rfl lar_boolean rfl (fun _ => rfl) (by decide) (by decide) (by decide) (by decide) (by decide) dX8_init_23 (fun q3 => ?_)
  refine J_putR (C := RX8) (T := TX8) (N := 32) (ci := 10) (f := 3) (fs := [.int 0, .ref q1, .ref q2, .null, .null, .null, .null, .null, .null, .int 0, .int 0, .null, .null, .null, .null, .null, .null, .null, .null, .null, .null, .int 0, .int 0, .int 0, .null, .long 0, .int 0, .int 0, .null, .null, .null, .int 0]) 0 rfl rfl kin8 tyX8 tyX8_ok nmX8 (by decide) lf_8_16 rfl rfl rfl (tyX8_ok 3 (by decide)) rfl rfl (Nat.le_of_ble_eq_true rfl) dX8_init_25 ?_
  refine J_eq (w' := [(b, .inr (10, [.int 0, .ref q1, .ref q2, .ref q3, .null, .null, .null, .null, .null, .int 0, .int 0, .null, .null, .null, .null, .null, .null, .null, .null, .null, .null, .int 0, .int 0, .int 0, .null, .long 0, .int 0, .int 0, .null, .null, .null, .int 0])), (q1, .inl (cy 0, 10, .inl (fun _ => 0))), (q2, .inl (cy 0, 10, .inl (fun _ => 0))), (q3, .inl (cy 2, 10, .inl (fun _ => 0)))]) (lv' := [(0, .ref b)]) (st' := []) rfl rfl rfl ?_
  refine J_aload_n 0 rfl dX8_init_28 ?_
  refine J_bipush (v := 10) (by decide) dX8_init_29 ?_
  refine J_newaR (N' := 10) (a0 := (10, .inl (fun _ => 0))) 0 rfl lar_int rfl (fun _ => rfl) (by decide) (by decide) (by decide) (by decide) (by decide) dX8_init_31 (fun q4 => ?_)
  refine J_putR (C := RX8) (T := TX8) (N := 32) (ci := 10) (f := 4) (fs := [.int 0, .ref q1, .ref q2, .ref q3, .null, .null, .null, .null, .null, .int 0, .int 0, .null, .null, .null, .null, .null, .null, .null, .null, .null, .null, .int 0, .int 0, .int 0, .null, .long 0, .int 0, .int 0, .null, .null, .null, .int 0]) 0 rfl rfl kin8 tyX8 tyX8_ok nmX8 (by decide) lf_8_20 rfl rfl rfl (tyX8_ok 4 (by decide)) rfl rfl (Nat.le_of_ble_eq_true rfl) dX8_init_33 ?_
  refine J_eq (w' := [(b, .inr (10, [.int 0, .ref q1, .ref q2, .ref q3, .ref q4, .null, .null, .null, .null, .int 0, .int 0, .null, .null, .null, .null, .null, .null, .null, .null, .null, .null, .int 0, .int 0, .int 0, .null, .long 0, .int 0, .int 0, .null, .null, .null, .int 0])), (q1, .inl (cy 0, 10, .inl (fun _ => 0))), (q2, .inl (cy 0, 10, .inl (fun _ => 0))), (q3, .inl (cy 2, 10, .inl (fun _ => 0))), (q4, .inl (cy 0, 10, .inl (fun _ => 0)))]) (lv' := [(0, .ref b)]) (st' := []) rfl rfl rfl ?_
  refine J_aload_n 0 rfl dX8_init_36 ?_
  refine J_bipush (v := 10) (by decide) dX8_init_37 ?_
  refine J_newaR (N' := 10) (a0 := (10, .inl (fun _ => 0))) 0 rfl lar_int rfl (fun _ => rfl) (by decide) (by decide) (by decide) (by decide) (by decide) dX8_init_39 (fun q5 => ?_)
  refine J_putR (C := RX8) (T := TX8) (N := 32) (ci := 10) (f := 5) (fs := [.int 0, .ref q1, .ref q2, .ref q3, .ref q4, .null, .null, .null, .null, .int 0, .int 0, .null, .null, .null, .null, .null, .null, .null, .null, .null, .null, .int 0, .int 0, .int 0, .null, .long 0, .int 0, .int 0, .null, .null, .null, .int 0]) 0 rfl rfl kin8 tyX8 tyX8_ok nmX8 (by decide) lf_8_23 rfl rfl rfl (tyX8_ok 5 (by decide)) rfl rfl (Nat.le_of_ble_eq_true rfl) dX8_init_41 ?_
  refine J_eq (w' := [(b, .inr (10, [.int 0, .ref q1, .ref q2, .ref q3, .ref q4, .ref q5, .null, .null, .null, .int 0, .int 0, .null, .null, .null, .null, .null, .null, .null, .null, .null, .null, .int 0, .int 0, .int 0, .null, .long 0, .int 0, .int 0, .null, .null, .null, .int 0])), (q1, .inl (cy 0, 10, .inl (fun _ => 0))), (q2, .inl (cy 0, 10, .inl (fun _ => 0))), (q3, .inl (cy 2, 10, .inl (fun _ => 0))), (q4, .inl (cy 0, 10, .inl (fun _ => 0))), (q5, .inl (cy 0, 10, .inl (fun _ => 0)))]) (lv' := [(0, .ref b)]) (st' := []) rfl rfl rfl ?_
  refine J_aload_n 0 rfl dX8_init_44 ?_
  refine J_bipush (v := 10) (by decide) dX8_init_45 ?_
  refine J_newaR (N' := 10) (a0 := (10, .inl (fun _ => 0))) 0 rfl lar_int rfl (fun _ => rfl) (by decide) (by decide) (by decide) (by decide) (by decide) dX8_init_47 (fun q6 => ?_)
  refine J_putR (C := RX8) (T := TX8) (N := 32) (ci := 10) (f := 6) (fs := [.int 0, .ref q1, .ref q2, .ref q3, .ref q4, .ref q5, .null, .null, .null, .int 0, .int 0, .null, .null, .null, .null, .null, .null, .null, .null, .null, .null, .int 0, .int 0, .int 0, .null, .long 0, .int 0, .int 0, .null, .null, .null, .int 0]) 0 rfl rfl kin8 tyX8 tyX8_ok nmX8 (by decide) lf_8_26 rfl rfl rfl (tyX8_ok 6 (by decide)) rfl rfl (Nat.le_of_ble_eq_true rfl) dX8_init_49 ?_
  refine J_eq (w' := [(b, .inr (10, [.int 0, .ref q1, .ref q2, .ref q3, .ref q4, .ref q5, .ref q6, .null, .null, .int 0, .int 0, .null, .null, .null, .null, .null, .null, .null, .null, .null, .null, .int 0, .int 0, .int 0, .null, .long 0, .int 0, .int 0, .null, .null, .null, .int 0])), (q1, .inl (cy 0, 10, .inl (fun _ => 0))), (q2, .inl (cy 0, 10, .inl (fun _ => 0))), (q3, .inl (cy 2, 10, .inl (fun _ => 0))), (q4, .inl (cy 0, 10, .inl (fun _ => 0))), (q5, .inl (cy 0, 10, .inl (fun _ => 0))), (q6, .inl (cy 0, 10, .inl (fun _ => 0)))]) (lv' := [(0, .ref b)]) (st' := []) rfl rfl rfl ?_
  refine J_aload_n 0 rfl dX8_init_52 ?_
  refine J_bipush (v := 10) (by decide) dX8_init_53 ?_
  refine J_newaR (N' := 10) (a0 := (10, .inl (fun _ => 0))) 0 rfl lar_int rfl (fun _ => rfl) (by decide) (by decide) (by decide) (by decide) (by decide) dX8_init_55 (fun q7 => ?_)
  refine J_putR (C := RX8) (T := TX8) (N := 32) (ci := 10) (f := 7) (fs := [.int 0, .ref q1, .ref q2, .ref q3, .ref q4, .ref q5, .ref q6, .null, .null, .int 0, .int 0, .null, .null, .null, .null, .null, .null, .null, .null, .null, .null, .int 0, .int 0, .int 0, .null, .long 0, .int 0, .int 0, .null, .null, .null, .int 0]) 0 rfl rfl kin8 tyX8 tyX8_ok nmX8 (by decide) lf_8_29 rfl rfl rfl (tyX8_ok 7 (by decide)) rfl rfl (Nat.le_of_ble_eq_true rfl) dX8_init_57 ?_
  refine J_eq (w' := [(b, .inr (10, [.int 0, .ref q1, .ref q2, .ref q3, .ref q4, .ref q5, .ref q6, .ref q7, .null, .int 0, .int 0, .null, .null, .null, .null, .null, .null, .null, .null, .null, .null, .int 0, .int 0, .int 0, .null, .long 0, .int 0, .int 0, .null, .null, .null, .int 0])), (q1, .inl (cy 0, 10, .inl (fun _ => 0))), (q2, .inl (cy 0, 10, .inl (fun _ => 0))), (q3, .inl (cy 2, 10, .inl (fun _ => 0))), (q4, .inl (cy 0, 10, .inl (fun _ => 0))), (q5, .inl (cy 0, 10, .inl (fun _ => 0))), (q6, .inl (cy 0, 10, .inl (fun _ => 0))), (q7, .inl (cy 0, 10, .inl (fun _ => 0)))]) (lv' := [(0, .ref b)]) (st' := []) rfl rfl rfl ?_
  refine J_aload_n 0 rfl dX8_init_60 ?_
  refine J_bipush (v := 10) (by decide) dX8_init_61 ?_
  refine J_newaR (N' := 10) (a0 := (10, .inl (fun _ => 0))) 0 rfl lar_int rfl (fun _ => rfl) (by decide) (by decide) (by decide) (by decide) (by decide) dX8_init_63 (fun q8 => ?_)
  refine J_putR (C := RX8) (T := TX8) (N := 32) (ci := 10) (f := 8) (fs := [.int 0, .ref q1, .ref q2, .ref q3, .ref q4, .ref q5, .ref q6, .ref q7, .null, .int 0, .int 0, .null, .null, .null, .null, .null, .null, .null, .null, .null, .null, .int 0, .int 0, .int 0, .null, .long 0, .int 0, .int 0, .null, .null, .null, .int 0]) 0 rfl rfl kin8 tyX8 tyX8_ok nmX8 (by decide) lf_8_32 rfl rfl rfl (tyX8_ok 8 (by decide)) rfl rfl (Nat.le_of_ble_eq_true rfl) dX8_init_65 ?_
  refine J_eq (w' := [(b, .inr (10, [.int 0, .ref q1, .ref q2, .ref q3, .ref q4, .ref q5, .ref q6, .ref q7, .ref q8, .int 0, .int 0, .null, .null, .null, .null, .null, .null, .null, .null, .null, .null, .int 0, .int 0, .int 0, .null, .long 0, .int 0, .int 0, .null, .null, .null, .int 0])), (q1, .inl (cy 0, 10, .inl (fun _ => 0))), (q2, .inl (cy 0, 10, .inl (fun _ => 0))), (q3, .inl (cy 2, 10, .inl (fun _ => 0))), (q4, .inl (cy 0, 10, .inl (fun _ => 0))), (q5, .inl (cy 0, 10, .inl (fun _ => 0))), (q6, .inl (cy 0, 10, .inl (fun _ => 0))), (q7, .inl (cy 0, 10, .inl (fun _ => 0))), (q8, .inl (cy 0, 10, .inl (fun _ => 0)))]) (lv' := [(0, .ref b)]) (st' := []) rfl rfl rfl ?_
  refine J_aload_n 0 rfl dX8_init_68 ?_
  refine J_sipush (v := 150) (by decide) dX8_init_69 ?_
  refine J_newaR (N' := 150) (a0 := (150, .inl (fun _ => 0))) 0 rfl lar_int rfl (fun _ => rfl) (by decide) (by decide) (by decide) (by decide) (by decide) dX8_init_72 (fun q9 => ?_)
  refine J_putR (C := RX8) (T := TX8) (N := 32) (ci := 10) (f := 11) (fs := [.int 0, .ref q1, .ref q2, .ref q3, .ref q4, .ref q5, .ref q6, .ref q7, .ref q8, .int 0, .int 0, .null, .null, .null, .null, .null, .null, .null, .null, .null, .null, .int 0, .int 0, .int 0, .null, .long 0, .int 0, .int 0, .null, .null, .null, .int 0]) 0 rfl rfl kin8 tyX8 tyX8_ok nmX8 (by decide) lf_8_35 rfl rfl rfl (tyX8_ok 11 (by decide)) rfl rfl (Nat.le_of_ble_eq_true rfl) dX8_init_74 ?_
  refine J_eq (w' := [(b, .inr (10, [.int 0, .ref q1, .ref q2, .ref q3, .ref q4, .ref q5, .ref q6, .ref q7, .ref q8, .int 0, .int 0, .ref q9, .null, .null, .null, .null, .null, .null, .null, .null, .null, .int 0, .int 0, .int 0, .null, .long 0, .int 0, .int 0, .null, .null, .null, .int 0])), (q1, .inl (cy 0, 10, .inl (fun _ => 0))), (q2, .inl (cy 0, 10, .inl (fun _ => 0))), (q3, .inl (cy 2, 10, .inl (fun _ => 0))), (q4, .inl (cy 0, 10, .inl (fun _ => 0))), (q5, .inl (cy 0, 10, .inl (fun _ => 0))), (q6, .inl (cy 0, 10, .inl (fun _ => 0))), (q7, .inl (cy 0, 10, .inl (fun _ => 0))), (q8, .inl (cy 0, 10, .inl (fun _ => 0))), (q9, .inl (cy 0, 150, .inl (fun _ => 0)))]) (lv' := [(0, .ref b)]) (st' := []) rfl rfl rfl ?_
  refine J_aload_n 0 rfl dX8_init_77 ?_
  refine J_sipush (v := 150) (by decide) dX8_init_78 ?_
  refine J_newaR (N' := 150) (a0 := (150, .inl (fun _ => 0))) 0 rfl lar_int rfl (fun _ => rfl) (by decide) (by decide) (by decide) (by decide) (by decide) dX8_init_81 (fun q10 => ?_)
  refine J_putR (C := RX8) (T := TX8) (N := 32) (ci := 10) (f := 12) (fs := [.int 0, .ref q1, .ref q2, .ref q3, .ref q4, .ref q5, .ref q6, .ref q7, .ref q8, .int 0, .int 0, .ref q9, .null, .null, .null, .null, .null, .null, .null, .null, .null, .int 0, .int 0, .int 0, .null, .long 0, .int 0, .int 0, .null, .null, .null, .int 0]) 0 rfl rfl kin8 tyX8 tyX8_ok nmX8 (by decide) lf_8_38 rfl rfl rfl (tyX8_ok 12 (by decide)) rfl rfl (Nat.le_of_ble_eq_true rfl) dX8_init_83 ?_
  refine J_eq (w' := [(b, .inr (10, [.int 0, .ref q1, .ref q2, .ref q3, .ref q4, .ref q5, .ref q6, .ref q7, .ref q8, .int 0, .int 0, .ref q9, .ref q10, .null, .null, .null, .null, .null, .null, .null, .null, .int 0, .int 0, .int 0, .null, .long 0, .int 0, .int 0, .null, .null, .null, .int 0])), (q1, .inl (cy 0, 10, .inl (fun _ => 0))), (q2, .inl (cy 0, 10, .inl (fun _ => 0))), (q3, .inl (cy 2, 10, .inl (fun _ => 0))), (q4, .inl (cy 0, 10, .inl (fun _ => 0))), (q5, .inl (cy 0, 10, .inl (fun _ => 0))), (q6, .inl (cy 0, 10, .inl (fun _ => 0))), (q7, .inl (cy 0, 10, .inl (fun _ => 0))), (q8, .inl (cy 0, 10, .inl (fun _ => 0))), (q9, .inl (cy 0, 150, .inl (fun _ => 0))), (q10, .inl (cy 0, 150, .inl (fun _ => 0)))]) (lv' := [(0, .ref b)]) (st' := []) rfl rfl rfl ?_
  refine J_aload_n 0 rfl dX8_init_86 ?_
  refine J_sipush (v := 150) (by decide) dX8_init_87 ?_
  refine J_newaR (N' := 150) (a0 := (150, .inl (fun _ => 0))) 1 rfl lar_char rfl (fun _ => rfl) (by decide) (by decide) (by decide) (by decide) (by decide) dX8_init_90 (fun q11 => ?_)
  refine J_putR (C := RX8) (T := TX8) (N := 32) (ci := 10) (f := 13) (fs := [.int 0, .ref q1, .ref q2, .ref q3, .ref q4, .ref q5, .ref q6, .ref q7, .ref q8, .int 0, .int 0, .ref q9, .ref q10, .null, .null, .null, .null, .null, .null, .null, .null, .int 0, .int 0, .int 0, .null, .long 0, .int 0, .int 0, .null, .null, .null, .int 0]) 0 rfl rfl kin8 tyX8 tyX8_ok nmX8 (by decide) lf_8_41 rfl rfl rfl (tyX8_ok 13 (by decide)) rfl rfl (Nat.le_of_ble_eq_true rfl) dX8_init_92 ?_
  refine J_eq (w' := [(b, .inr (10, [.int 0, .ref q1, .ref q2, .ref q3, .ref q4, .ref q5, .ref q6, .ref q7, .ref q8, .int 0, .int 0, .ref q9, .ref q10, .ref q11, .null, .null, .null, .null, .null, .null, .null, .int 0, .int 0, .int 0, .null, .long 0, .int 0, .int 0, .null, .null, .null, .int 0])), (q1, .inl (cy 0, 10, .inl (fun _ => 0))), (q2, .inl (cy 0, 10, .inl (fun _ => 0))), (q3, .inl (cy 2, 10, .inl (fun _ => 0))), (q4, .inl (cy 0, 10, .inl (fun _ => 0))), (q5, .inl (cy 0, 10, .inl (fun _ => 0))), (q6, .inl (cy 0, 10, .inl (fun _ => 0))), (q7, .inl (cy 0, 10, .inl (fun _ => 0))), (q8, .inl (cy 0, 10, .inl (fun _ => 0))), (q9, .inl (cy 0, 150, .inl (fun _ => 0))), (q10, .inl (cy 0, 150, .inl (fun _ => 0))), (q11, .inl (cy 1, 150, .inl (fun _ => 0)))]) (lv' := [(0, .ref b)]) (st' := []) rfl rfl rfl ?_
  refine J_aload_n 0 rfl dX8_init_95 ?_
  refine J_sipush (v := 150) (by decide) dX8_init_96 ?_
  refine J_newaR (N' := 150) (a0 := (150, .inl (fun _ => 0))) 0 rfl lar_int rfl (fun _ => rfl) (by decide) (by decide) (by decide) (by decide) (by decide) dX8_init_99 (fun q12 => ?_)
  refine J_putR (C := RX8) (T := TX8) (N := 32) (ci := 10) (f := 14) (fs := [.int 0, .ref q1, .ref q2, .ref q3, .ref q4, .ref q5, .ref q6, .ref q7, .ref q8, .int 0, .int 0, .ref q9, .ref q10, .ref q11, .null, .null, .null, .null, .null, .null, .null, .int 0, .int 0, .int 0, .null, .long 0, .int 0, .int 0, .null, .null, .null, .int 0]) 0 rfl rfl kin8 tyX8 tyX8_ok nmX8 (by decide) lf_8_45 rfl rfl rfl (tyX8_ok 14 (by decide)) rfl rfl (Nat.le_of_ble_eq_true rfl) dX8_init_101 ?_
  refine J_eq (w' := [(b, .inr (10, [.int 0, .ref q1, .ref q2, .ref q3, .ref q4, .ref q5, .ref q6, .ref q7, .ref q8, .int 0, .int 0, .ref q9, .ref q10, .ref q11, .ref q12, .null, .null, .null, .null, .null, .null, .int 0, .int 0, .int 0, .null, .long 0, .int 0, .int 0, .null, .null, .null, .int 0])), (q1, .inl (cy 0, 10, .inl (fun _ => 0))), (q2, .inl (cy 0, 10, .inl (fun _ => 0))), (q3, .inl (cy 2, 10, .inl (fun _ => 0))), (q4, .inl (cy 0, 10, .inl (fun _ => 0))), (q5, .inl (cy 0, 10, .inl (fun _ => 0))), (q6, .inl (cy 0, 10, .inl (fun _ => 0))), (q7, .inl (cy 0, 10, .inl (fun _ => 0))), (q8, .inl (cy 0, 10, .inl (fun _ => 0))), (q9, .inl (cy 0, 150, .inl (fun _ => 0))), (q10, .inl (cy 0, 150, .inl (fun _ => 0))), (q11, .inl (cy 1, 150, .inl (fun _ => 0))), (q12, .inl (cy 0, 150, .inl (fun _ => 0)))]) (lv' := [(0, .ref b)]) (st' := []) rfl rfl rfl ?_
  refine J_aload_n 0 rfl dX8_init_104 ?_
  refine J_sipush (v := 150) (by decide) dX8_init_105 ?_
  refine J_newaR (N' := 150) (a0 := (150, .inl (fun _ => 0))) 1 rfl lar_char rfl (fun _ => rfl) (by decide) (by decide) (by decide) (by decide) (by decide) dX8_init_108 (fun q13 => ?_)
  refine J_putR (C := RX8) (T := TX8) (N := 32) (ci := 10) (f := 15) (fs := [.int 0, .ref q1, .ref q2, .ref q3, .ref q4, .ref q5, .ref q6, .ref q7, .ref q8, .int 0, .int 0, .ref q9, .ref q10, .ref q11, .ref q12, .null, .null, .null, .null, .null, .null, .int 0, .int 0, .int 0, .null, .long 0, .int 0, .int 0, .null, .null, .null, .int 0]) 0 rfl rfl kin8 tyX8 tyX8_ok nmX8 (by decide) lf_8_48 rfl rfl rfl (tyX8_ok 15 (by decide)) rfl rfl (Nat.le_of_ble_eq_true rfl) dX8_init_110 ?_
  refine J_eq (w' := [(b, .inr (10, [.int 0, .ref q1, .ref q2, .ref q3, .ref q4, .ref q5, .ref q6, .ref q7, .ref q8, .int 0, .int 0, .ref q9, .ref q10, .ref q11, .ref q12, .ref q13, .null, .null, .null, .null, .null, .int 0, .int 0, .int 0, .null, .long 0, .int 0, .int 0, .null, .null, .null, .int 0])), (q1, .inl (cy 0, 10, .inl (fun _ => 0))), (q2, .inl (cy 0, 10, .inl (fun _ => 0))), (q3, .inl (cy 2, 10, .inl (fun _ => 0))), (q4, .inl (cy 0, 10, .inl (fun _ => 0))), (q5, .inl (cy 0, 10, .inl (fun _ => 0))), (q6, .inl (cy 0, 10, .inl (fun _ => 0))), (q7, .inl (cy 0, 10, .inl (fun _ => 0))), (q8, .inl (cy 0, 10, .inl (fun _ => 0))), (q9, .inl (cy 0, 150, .inl (fun _ => 0))), (q10, .inl (cy 0, 150, .inl (fun _ => 0))), (q11, .inl (cy 1, 150, .inl (fun _ => 0))), (q12, .inl (cy 0, 150, .inl (fun _ => 0))), (q13, .inl (cy 1, 150, .inl (fun _ => 0)))]) (lv' := [(0, .ref b)]) (st' := []) rfl rfl rfl ?_
  refine J_aload_n 0 rfl dX8_init_113 ?_
  refine J_sipush (v := 150) (by decide) dX8_init_114 ?_
  refine J_newaR (N' := 150) (a0 := (150, .inl (fun _ => 0))) 0 rfl lar_int rfl (fun _ => rfl) (by decide) (by decide) (by decide) (by decide) (by decide) dX8_init_117 (fun q14 => ?_)
  refine J_putR (C := RX8) (T := TX8) (N := 32) (ci := 10) (f := 16) (fs := [.int 0, .ref q1, .ref q2, .ref q3, .ref q4, .ref q5, .ref q6, .ref q7, .ref q8, .int 0, .int 0, .ref q9, .ref q10, .ref q11, .ref q12, .ref q13, .null, .null, .null, .null, .null, .int 0, .int 0, .int 0, .null, .long 0, .int 0, .int 0, .null, .null, .null, .int 0]) 0 rfl rfl kin8 tyX8 tyX8_ok nmX8 (by decide) lf_8_51 rfl rfl rfl (tyX8_ok 16 (by decide)) rfl rfl (Nat.le_of_ble_eq_true rfl) dX8_init_119 ?_
  refine J_eq (w' := [(b, .inr (10, [.int 0, .ref q1, .ref q2, .ref q3, .ref q4, .ref q5, .ref q6, .ref q7, .ref q8, .int 0, .int 0, .ref q9, .ref q10, .ref q11, .ref q12, .ref q13, .ref q14, .null, .null, .null, .null, .int 0, .int 0, .int 0, .null, .long 0, .int 0, .int 0, .null, .null, .null, .int 0])), (q1, .inl (cy 0, 10, .inl (fun _ => 0))), (q2, .inl (cy 0, 10, .inl (fun _ => 0))), (q3, .inl (cy 2, 10, .inl (fun _ => 0))), (q4, .inl (cy 0, 10, .inl (fun _ => 0))), (q5, .inl (cy 0, 10, .inl (fun _ => 0))), (q6, .inl (cy 0, 10, .inl (fun _ => 0))), (q7, .inl (cy 0, 10, .inl (fun _ => 0))), (q8, .inl (cy 0, 10, .inl (fun _ => 0))), (q9, .inl (cy 0, 150, .inl (fun _ => 0))), (q10, .inl (cy 0, 150, .inl (fun _ => 0))), (q11, .inl (cy 1, 150, .inl (fun _ => 0))), (q12, .inl (cy 0, 150, .inl (fun _ => 0))), (q13, .inl (cy 1, 150, .inl (fun _ => 0))), (q14, .inl (cy 0, 150, .inl (fun _ => 0)))]) (lv' := [(0, .ref b)]) (st' := []) rfl rfl rfl ?_
  refine J_aload_n 0 rfl dX8_init_122 ?_
  refine J_sipush (v := 150) (by decide) dX8_init_123 ?_
  refine J_newaR (N' := 150) (a0 := (150, .inl (fun _ => 0))) 0 rfl lar_int rfl (fun _ => rfl) (by decide) (by decide) (by decide) (by decide) (by decide) dX8_init_126 (fun q15 => ?_)
  refine J_putR (C := RX8) (T := TX8) (N := 32) (ci := 10) (f := 17) (fs := [.int 0, .ref q1, .ref q2, .ref q3, .ref q4, .ref q5, .ref q6, .ref q7, .ref q8, .int 0, .int 0, .ref q9, .ref q10, .ref q11, .ref q12, .ref q13, .ref q14, .null, .null, .null, .null, .int 0, .int 0, .int 0, .null, .long 0, .int 0, .int 0, .null, .null, .null, .int 0]) 0 rfl rfl kin8 tyX8 tyX8_ok nmX8 (by decide) lf_8_54 rfl rfl rfl (tyX8_ok 17 (by decide)) rfl rfl (Nat.le_of_ble_eq_true rfl) dX8_init_128 ?_
  refine J_eq (w' := [(b, .inr (10, [.int 0, .ref q1, .ref q2, .ref q3, .ref q4, .ref q5, .ref q6, .ref q7, .ref q8, .int 0, .int 0, .ref q9, .ref q10, .ref q11, .ref q12, .ref q13, .ref q14, .ref q15, .null, .null, .null, .int 0, .int 0, .int 0, .null, .long 0, .int 0, .int 0, .null, .null, .null, .int 0])), (q1, .inl (cy 0, 10, .inl (fun _ => 0))), (q2, .inl (cy 0, 10, .inl (fun _ => 0))), (q3, .inl (cy 2, 10, .inl (fun _ => 0))), (q4, .inl (cy 0, 10, .inl (fun _ => 0))), (q5, .inl (cy 0, 10, .inl (fun _ => 0))), (q6, .inl (cy 0, 10, .inl (fun _ => 0))), (q7, .inl (cy 0, 10, .inl (fun _ => 0))), (q8, .inl (cy 0, 10, .inl (fun _ => 0))), (q9, .inl (cy 0, 150, .inl (fun _ => 0))), (q10, .inl (cy 0, 150, .inl (fun _ => 0))), (q11, .inl (cy 1, 150, .inl (fun _ => 0))), (q12, .inl (cy 0, 150, .inl (fun _ => 0))), (q13, .inl (cy 1, 150, .inl (fun _ => 0))), (q14, .inl (cy 0, 150, .inl (fun _ => 0))), (q15, .inl (cy 0, 150, .inl (fun _ => 0)))]) (lv' := [(0, .ref b)]) (st' := []) rfl rfl rfl ?_
  refine J_aload_n 0 rfl dX8_init_131 ?_
  refine J_sipush (v := 150) (by decide) dX8_init_132 ?_
  refine J_newaR (N' := 150) (a0 := (150, .inl (fun _ => 0))) 0 rfl lar_int rfl (fun _ => rfl) (by decide) (by decide) (by decide) (by decide) (by decide) dX8_init_135 (fun q16 => ?_)
  refine J_putR (C := RX8) (T := TX8) (N := 32) (ci := 10) (f := 18) (fs := [.int 0, .ref q1, .ref q2, .ref q3, .ref q4, .ref q5, .ref q6, .ref q7, .ref q8, .int 0, .int 0, .ref q9, .ref q10, .ref q11, .ref q12, .ref q13, .ref q14, .ref q15, .null, .null, .null, .int 0, .int 0, .int 0, .null, .long 0, .int 0, .int 0, .null, .null, .null, .int 0]) 0 rfl rfl kin8 tyX8 tyX8_ok nmX8 (by decide) lf_8_57 rfl rfl rfl (tyX8_ok 18 (by decide)) rfl rfl (Nat.le_of_ble_eq_true rfl) dX8_init_137 ?_
  refine J_eq (w' := [(b, .inr (10, [.int 0, .ref q1, .ref q2, .ref q3, .ref q4, .ref q5, .ref q6, .ref q7, .ref q8, .int 0, .int 0, .ref q9, .ref q10, .ref q11, .ref q12, .ref q13, .ref q14, .ref q15, .ref q16, .null, .null, .int 0, .int 0, .int 0, .null, .long 0, .int 0, .int 0, .null, .null, .null, .int 0])), (q1, .inl (cy 0, 10, .inl (fun _ => 0))), (q2, .inl (cy 0, 10, .inl (fun _ => 0))), (q3, .inl (cy 2, 10, .inl (fun _ => 0))), (q4, .inl (cy 0, 10, .inl (fun _ => 0))), (q5, .inl (cy 0, 10, .inl (fun _ => 0))), (q6, .inl (cy 0, 10, .inl (fun _ => 0))), (q7, .inl (cy 0, 10, .inl (fun _ => 0))), (q8, .inl (cy 0, 10, .inl (fun _ => 0))), (q9, .inl (cy 0, 150, .inl (fun _ => 0))), (q10, .inl (cy 0, 150, .inl (fun _ => 0))), (q11, .inl (cy 1, 150, .inl (fun _ => 0))), (q12, .inl (cy 0, 150, .inl (fun _ => 0))), (q13, .inl (cy 1, 150, .inl (fun _ => 0))), (q14, .inl (cy 0, 150, .inl (fun _ => 0))), (q15, .inl (cy 0, 150, .inl (fun _ => 0))), (q16, .inl (cy 0, 150, .inl (fun _ => 0)))]) (lv' := [(0, .ref b)]) (st' := []) rfl rfl rfl ?_
  refine J_aload_n 0 rfl dX8_init_140 ?_
  refine J_sipush (v := 150) (by decide) dX8_init_141 ?_
  refine J_newaR (N' := 150) (a0 := (150, .inl (fun _ => 0))) 0 rfl lar_int rfl (fun _ => rfl) (by decide) (by decide) (by decide) (by decide) (by decide) dX8_init_144 (fun q17 => ?_)
  refine J_putR (C := RX8) (T := TX8) (N := 32) (ci := 10) (f := 19) (fs := [.int 0, .ref q1, .ref q2, .ref q3, .ref q4, .ref q5, .ref q6, .ref q7, .ref q8, .int 0, .int 0, .ref q9, .ref q10, .ref q11, .ref q12, .ref q13, .ref q14, .ref q15, .ref q16, .null, .null, .int 0, .int 0, .int 0, .null, .long 0, .int 0, .int 0, .null, .null, .null, .int 0]) 0 rfl rfl kin8 tyX8 tyX8_ok nmX8 (by decide) lf_8_60 rfl rfl rfl (tyX8_ok 19 (by decide)) rfl rfl (Nat.le_of_ble_eq_true rfl) dX8_init_146 ?_
  refine J_eq (w' := [(b, .inr (10, [.int 0, .ref q1, .ref q2, .ref q3, .ref q4, .ref q5, .ref q6, .ref q7, .ref q8, .int 0, .int 0, .ref q9, .ref q10, .ref q11, .ref q12, .ref q13, .ref q14, .ref q15, .ref q16, .ref q17, .null, .int 0, .int 0, .int 0, .null, .long 0, .int 0, .int 0, .null, .null, .null, .int 0])), (q1, .inl (cy 0, 10, .inl (fun _ => 0))), (q2, .inl (cy 0, 10, .inl (fun _ => 0))), (q3, .inl (cy 2, 10, .inl (fun _ => 0))), (q4, .inl (cy 0, 10, .inl (fun _ => 0))), (q5, .inl (cy 0, 10, .inl (fun _ => 0))), (q6, .inl (cy 0, 10, .inl (fun _ => 0))), (q7, .inl (cy 0, 10, .inl (fun _ => 0))), (q8, .inl (cy 0, 10, .inl (fun _ => 0))), (q9, .inl (cy 0, 150, .inl (fun _ => 0))), (q10, .inl (cy 0, 150, .inl (fun _ => 0))), (q11, .inl (cy 1, 150, .inl (fun _ => 0))), (q12, .inl (cy 0, 150, .inl (fun _ => 0))), (q13, .inl (cy 1, 150, .inl (fun _ => 0))), (q14, .inl (cy 0, 150, .inl (fun _ => 0))), (q15, .inl (cy 0, 150, .inl (fun _ => 0))), (q16, .inl (cy 0, 150, .inl (fun _ => 0))), (q17, .inl (cy 0, 150, .inl (fun _ => 0)))]) (lv' := [(0, .ref b)]) (st' := []) rfl rfl rfl ?_
  refine J_aload_n 0 rfl dX8_init_149 ?_
  refine J_sipush (v := 150) (by decide) dX8_init_150 ?_
  refine J_newaR (N' := 150) (a0 := (150, .inl (fun _ => 0))) 0 rfl lar_int rfl (fun _ => rfl) (by decide) (by decide) (by decide) (by decide) (by decide) dX8_init_153 (fun q18 => ?_)
  refine J_putR (C := RX8) (T := TX8) (N := 32) (ci := 10) (f := 20) (fs := [.int 0, .ref q1, .ref q2, .ref q3, .ref q4, .ref q5, .ref q6, .ref q7, .ref q8, .int 0, .int 0, .ref q9, .ref q10, .ref q11, .ref q12, .ref q13, .ref q14, .ref q15, .ref q16, .ref q17, .null, .int 0, .int 0, .int 0, .null, .long 0, .int 0, .int 0, .null, .null, .null, .int 0]) 0 rfl rfl kin8 tyX8 tyX8_ok nmX8 (by decide) lf_8_63 rfl rfl rfl (tyX8_ok 20 (by decide)) rfl rfl (Nat.le_of_ble_eq_true rfl) dX8_init_155 ?_
  refine J_eq (w' := [(b, .inr (10, [.int 0, .ref q1, .ref q2, .ref q3, .ref q4, .ref q5, .ref q6, .ref q7, .ref q8, .int 0, .int 0, .ref q9, .ref q10, .ref q11, .ref q12, .ref q13, .ref q14, .ref q15, .ref q16, .ref q17, .ref q18, .int 0, .int 0, .int 0, .null, .long 0, .int 0, .int 0, .null, .null, .null, .int 0])), (q1, .inl (cy 0, 10, .inl (fun _ => 0))), (q2, .inl (cy 0, 10, .inl (fun _ => 0))), (q3, .inl (cy 2, 10, .inl (fun _ => 0))), (q4, .inl (cy 0, 10, .inl (fun _ => 0))), (q5, .inl (cy 0, 10, .inl (fun _ => 0))), (q6, .inl (cy 0, 10, .inl (fun _ => 0))), (q7, .inl (cy 0, 10, .inl (fun _ => 0))), (q8, .inl (cy 0, 10, .inl (fun _ => 0))), (q9, .inl (cy 0, 150, .inl (fun _ => 0))), (q10, .inl (cy 0, 150, .inl (fun _ => 0))), (q11, .inl (cy 1, 150, .inl (fun _ => 0))), (q12, .inl (cy 0, 150, .inl (fun _ => 0))), (q13, .inl (cy 1, 150, .inl (fun _ => 0))), (q14, .inl (cy 0, 150, .inl (fun _ => 0))), (q15, .inl (cy 0, 150, .inl (fun _ => 0))), (q16, .inl (cy 0, 150, .inl (fun _ => 0))), (q17, .inl (cy 0, 150, .inl (fun _ => 0))), (q18, .inl (cy 0, 150, .inl (fun _ => 0)))]) (lv' := [(0, .ref b)]) (st' := []) rfl rfl rfl ?_
  refine J_aload_n 0 rfl dX8_init_158 ?_
  refine J_iconst (v := 3) (by decide) dX8_init_159 ?_
  refine J_newaR (N' := 3) (a0 := (3, .inl (fun _ => 0))) 0 rfl lar_int rfl (fun _ => rfl) (by decide) (by decide) (by decide) (by decide) (by decide) dX8_init_160 (fun q19 => ?_)
  refine J_putR (C := RX8) (T := TX8) (N := 32) (ci := 10) (f := 24) (fs := [.int 0, .ref q1, .ref q2, .ref q3, .ref q4, .ref q5, .ref q6, .ref q7, .ref q8, .int 0, .int 0, .ref q9, .ref q10, .ref q11, .ref q12, .ref q13, .ref q14, .ref q15, .ref q16, .ref q17, .ref q18, .int 0, .int 0, .int 0, .null, .long 0, .int 0, .int 0, .null, .null, .null, .int 0]) 0 rfl rfl kin8 tyX8 tyX8_ok nmX8 (by decide) lf_8_66 rfl rfl rfl (tyX8_ok 24 (by decide)) rfl rfl (Nat.le_of_ble_eq_true rfl) dX8_init_162 ?_
  refine J_eq (w' := [(b, .inr (10, [.int 0, .ref q1, .ref q2, .ref q3, .ref q4, .ref q5, .ref q6, .ref q7, .ref q8, .int 0, .int 0, .ref q9, .ref q10, .ref q11, .ref q12, .ref q13, .ref q14, .ref q15, .ref q16, .ref q17, .ref q18, .int 0, .int 0, .int 0, .ref q19, .long 0, .int 0, .int 0, .null, .null, .null, .int 0])), (q1, .inl (cy 0, 10, .inl (fun _ => 0))), (q2, .inl (cy 0, 10, .inl (fun _ => 0))), (q3, .inl (cy 2, 10, .inl (fun _ => 0))), (q4, .inl (cy 0, 10, .inl (fun _ => 0))), (q5, .inl (cy 0, 10, .inl (fun _ => 0))), (q6, .inl (cy 0, 10, .inl (fun _ => 0))), (q7, .inl (cy 0, 10, .inl (fun _ => 0))), (q8, .inl (cy 0, 10, .inl (fun _ => 0))), (q9, .inl (cy 0, 150, .inl (fun _ => 0))), (q10, .inl (cy 0, 150, .inl (fun _ => 0))), (q11, .inl (cy 1, 150, .inl (fun _ => 0))), (q12, .inl (cy 0, 150, .inl (fun _ => 0))), (q13, .inl (cy 1, 150, .inl (fun _ => 0))), (q14, .inl (cy 0, 150, .inl (fun _ => 0))), (q15, .inl (cy 0, 150, .inl (fun _ => 0))), (q16, .inl (cy 0, 150, .inl (fun _ => 0))), (q17, .inl (cy 0, 150, .inl (fun _ => 0))), (q18, .inl (cy 0, 150, .inl (fun _ => 0))), (q19, .inl (cy 0, 3, .inl (fun _ => 0)))]) (lv' := [(0, .ref b)]) (st' := []) rfl rfl rfl ?_
  refine J_aload_n 0 rfl dX8_init_165 ?_
  refine J_bipush (v := 60) (by decide) dX8_init_166 ?_
  refine J_newaR (N' := 60) (a0 := (60, .inl (fun _ => 0))) 0 rfl lar_int rfl (fun _ => rfl) (by decide) (by decide) (by decide) (by decide) (by decide) dX8_init_168 (fun q20 => ?_)
  refine J_putR (C := RX8) (T := TX8) (N := 32) (ci := 10) (f := 28) (fs := [.int 0, .ref q1, .ref q2, .ref q3, .ref q4, .ref q5, .ref q6, .ref q7, .ref q8, .int 0, .int 0, .ref q9, .ref q10, .ref q11, .ref q12, .ref q13, .ref q14, .ref q15, .ref q16, .ref q17, .ref q18, .int 0, .int 0, .int 0, .ref q19, .long 0, .int 0, .int 0, .null, .null, .null, .int 0]) 0 rfl rfl kin8 tyX8 tyX8_ok nmX8 (by decide) lf_8_69 rfl rfl rfl (tyX8_ok 28 (by decide)) rfl rfl (Nat.le_of_ble_eq_true rfl) dX8_init_170 ?_
  refine J_eq (w' := [(b, .inr (10, [.int 0, .ref q1, .ref q2, .ref q3, .ref q4, .ref q5, .ref q6, .ref q7, .ref q8, .int 0, .int 0, .ref q9, .ref q10, .ref q11, .ref q12, .ref q13, .ref q14, .ref q15, .ref q16, .ref q17, .ref q18, .int 0, .int 0, .int 0, .ref q19, .long 0, .int 0, .int 0, .ref q20, .null, .null, .int 0])), (q1, .inl (cy 0, 10, .inl (fun _ => 0))), (q2, .inl (cy 0, 10, .inl (fun _ => 0))), (q3, .inl (cy 2, 10, .inl (fun _ => 0))), (q4, .inl (cy 0, 10, .inl (fun _ => 0))), (q5, .inl (cy 0, 10, .inl (fun _ => 0))), (q6, .inl (cy 0, 10, .inl (fun _ => 0))), (q7, .inl (cy 0, 10, .inl (fun _ => 0))), (q8, .inl (cy 0, 10, .inl (fun _ => 0))), (q9, .inl (cy 0, 150, .inl (fun _ => 0))), (q10, .inl (cy 0, 150, .inl (fun _ => 0))), (q11, .inl (cy 1, 150, .inl (fun _ => 0))), (q12, .inl (cy 0, 150, .inl (fun _ => 0))), (q13, .inl (cy 1, 150, .inl (fun _ => 0))), (q14, .inl (cy 0, 150, .inl (fun _ => 0))), (q15, .inl (cy 0, 150, .inl (fun _ => 0))), (q16, .inl (cy 0, 150, .inl (fun _ => 0))), (q17, .inl (cy 0, 150, .inl (fun _ => 0))), (q18, .inl (cy 0, 150, .inl (fun _ => 0))), (q19, .inl (cy 0, 3, .inl (fun _ => 0))), (q20, .inl (cy 0, 60, .inl (fun _ => 0)))]) (lv' := [(0, .ref b)]) (st' := []) rfl rfl rfl ?_
  refine J_aload_n 0 rfl dX8_init_173 ?_
  refine J_bipush (v := 60) (by decide) dX8_init_174 ?_
  refine J_newaR (N' := 60) (a0 := (60, .inl (fun _ => 0))) 1 rfl lar_char rfl (fun _ => rfl) (by decide) (by decide) (by decide) (by decide) (by decide) dX8_init_176 (fun q21 => ?_)
  refine J_putR (C := RX8) (T := TX8) (N := 32) (ci := 10) (f := 29) (fs := [.int 0, .ref q1, .ref q2, .ref q3, .ref q4, .ref q5, .ref q6, .ref q7, .ref q8, .int 0, .int 0, .ref q9, .ref q10, .ref q11, .ref q12, .ref q13, .ref q14, .ref q15, .ref q16, .ref q17, .ref q18, .int 0, .int 0, .int 0, .ref q19, .long 0, .int 0, .int 0, .ref q20, .null, .null, .int 0]) 0 rfl rfl kin8 tyX8 tyX8_ok nmX8 (by decide) lf_8_72 rfl rfl rfl (tyX8_ok 29 (by decide)) rfl rfl (Nat.le_of_ble_eq_true rfl) dX8_init_178 ?_
  refine J_eq (w' := [(b, .inr (10, [.int 0, .ref q1, .ref q2, .ref q3, .ref q4, .ref q5, .ref q6, .ref q7, .ref q8, .int 0, .int 0, .ref q9, .ref q10, .ref q11, .ref q12, .ref q13, .ref q14, .ref q15, .ref q16, .ref q17, .ref q18, .int 0, .int 0, .int 0, .ref q19, .long 0, .int 0, .int 0, .ref q20, .ref q21, .null, .int 0])), (q1, .inl (cy 0, 10, .inl (fun _ => 0))), (q2, .inl (cy 0, 10, .inl (fun _ => 0))), (q3, .inl (cy 2, 10, .inl (fun _ => 0))), (q4, .inl (cy 0, 10, .inl (fun _ => 0))), (q5, .inl (cy 0, 10, .inl (fun _ => 0))), (q6, .inl (cy 0, 10, .inl (fun _ => 0))), (q7, .inl (cy 0, 10, .inl (fun _ => 0))), (q8, .inl (cy 0, 10, .inl (fun _ => 0))), (q9, .inl (cy 0, 150, .inl (fun _ => 0))), (q10, .inl (cy 0, 150, .inl (fun _ => 0))), (q11, .inl (cy 1, 150, .inl (fun _ => 0))), (q12, .inl (cy 0, 150, .inl (fun _ => 0))), (q13, .inl (cy 1, 150, .inl (fun _ => 0))), (q14, .inl (cy 0, 150, .inl (fun _ => 0))), (q15, .inl (cy 0, 150, .inl (fun _ => 0))), (q16, .inl (cy 0, 150, .inl (fun _ => 0))), (q17, .inl (cy 0, 150, .inl (fun _ => 0))), (q18, .inl (cy 0, 150, .inl (fun _ => 0))), (q19, .inl (cy 0, 3, .inl (fun _ => 0))), (q20, .inl (cy 0, 60, .inl (fun _ => 0))), (q21, .inl (cy 1, 60, .inl (fun _ => 0)))]) (lv' := [(0, .ref b)]) (st' := []) rfl rfl rfl ?_
  refine J_aload_n 0 rfl dX8_init_181 ?_
  refine J_bipush (v := 60) (by decide) dX8_init_182 ?_
  refine J_newaR (N' := 60) (a0 := (60, .inl (fun _ => 0))) 0 rfl lar_int rfl (fun _ => rfl) (by decide) (by decide) (by decide) (by decide) (by decide) dX8_init_184 (fun q22 => ?_)
  refine J_putR (C := RX8) (T := TX8) (N := 32) (ci := 10) (f := 30) (fs := [.int 0, .ref q1, .ref q2, .ref q3, .ref q4, .ref q5, .ref q6, .ref q7, .ref q8, .int 0, .int 0, .ref q9, .ref q10, .ref q11, .ref q12, .ref q13, .ref q14, .ref q15, .ref q16, .ref q17, .ref q18, .int 0, .int 0, .int 0, .ref q19, .long 0, .int 0, .int 0, .ref q20, .ref q21, .null, .int 0]) 0 rfl rfl kin8 tyX8 tyX8_ok nmX8 (by decide) lf_8_75 rfl rfl rfl (tyX8_ok 30 (by decide)) rfl rfl (Nat.le_of_ble_eq_true rfl) dX8_init_186 ?_
  refine J_eq (w' := [(b, .inr (10, [.int 0, .ref q1, .ref q2, .ref q3, .ref q4, .ref q5, .ref q6, .ref q7, .ref q8, .int 0, .int 0, .ref q9, .ref q10, .ref q11, .ref q12, .ref q13, .ref q14, .ref q15, .ref q16, .ref q17, .ref q18, .int 0, .int 0, .int 0, .ref q19, .long 0, .int 0, .int 0, .ref q20, .ref q21, .ref q22, .int 0])), (q1, .inl (cy 0, 10, .inl (fun _ => 0))), (q2, .inl (cy 0, 10, .inl (fun _ => 0))), (q3, .inl (cy 2, 10, .inl (fun _ => 0))), (q4, .inl (cy 0, 10, .inl (fun _ => 0))), (q5, .inl (cy 0, 10, .inl (fun _ => 0))), (q6, .inl (cy 0, 10, .inl (fun _ => 0))), (q7, .inl (cy 0, 10, .inl (fun _ => 0))), (q8, .inl (cy 0, 10, .inl (fun _ => 0))), (q9, .inl (cy 0, 150, .inl (fun _ => 0))), (q10, .inl (cy 0, 150, .inl (fun _ => 0))), (q11, .inl (cy 1, 150, .inl (fun _ => 0))), (q12, .inl (cy 0, 150, .inl (fun _ => 0))), (q13, .inl (cy 1, 150, .inl (fun _ => 0))), (q14, .inl (cy 0, 150, .inl (fun _ => 0))), (q15, .inl (cy 0, 150, .inl (fun _ => 0))), (q16, .inl (cy 0, 150, .inl (fun _ => 0))), (q17, .inl (cy 0, 150, .inl (fun _ => 0))), (q18, .inl (cy 0, 150, .inl (fun _ => 0))), (q19, .inl (cy 0, 3, .inl (fun _ => 0))), (q20, .inl (cy 0, 60, .inl (fun _ => 0))), (q21, .inl (cy 1, 60, .inl (fun _ => 0))), (q22, .inl (cy 0, 60, .inl (fun _ => 0)))]) (lv' := [(0, .ref b)]) (st' := []) rfl rfl rfl ?_
  exact J_return rfl dX8_init_189 ⟨rfl, fun k _ => match k with | 30 => b | 41 => q1 | 42 => q2 | 43 => q3 | 44 => q4 | 45 => q5 | 46 => q6 | 47 => q7 | 48 => q8 | 51 => q9 | 52 => q10 | 53 => q11 | 54 => q12 | 55 => q13 | 56 => q14 | 57 => q15 | 58 => q16 | 59 => q17 | 60 => q18 | 64 => q19 | 68 => q20 | 69 => q21 | 70 => q22 | _ => 0, rfl, rfl⟩ (by decide) (by decide)
