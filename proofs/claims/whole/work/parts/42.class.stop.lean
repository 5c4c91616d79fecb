/-! the exchange: calls stop speaking -/
def RelX (cy : Nat → ClassId) (S : Nat → Nat → Nat) (LP : List Nat) (rc : Nat → Nat) (m : Mu) (w : va_W) : Prop := ∃ (I : kI) (L : kL) (R : kRf) (ln qu : List Nat) (lg : Nat), w = wc cy S I L R LP ∧ Rel m I L R LP rc ln qu lg ∧ lg < 2 ^ 31
theorem lg_lt {m : Mu} {I : kI} {lg B : Nat} (hG : relG m I lg) (hN : okN m B) (hB : B < 2 ^ 30) (hl : lg < 2 ^ 31) : lg < 2 ^ 30 := by
  obtain ⟨t, b, g, -, -, -, -, e, h, -, -⟩ := hN
  rw [hG.1] at e
  have : lg = g := (nI_eq hl (by omega)).mp e
  omega

theorem arr_map {R R' : kRf} {k : Nat} {l : List Nat} (h : arrL R k 24 l) (e : R' k 0 = R k 0) : arrL R' k 24 l := fun j hj => by rw [e]; exact h j hj
theorem ln_LP {m : Mu} {I : kI} {R : kRf} {LP : List Nat} {rc : Nat → Nat} {ln qu : List Nat} (hC : relC m I R LP rc) (hL : relL m I R rc ln qu) : (∀ x ∈ ln.map rc, x ∈ LP) ∧ ∀ x ∈ qu.map rc, x ∈ LP := by
  have h : ∀ i, i ∈ ln → rc i ∈ LP := fun i hi => (hC.2.1.2.2 i ((hL.2.2.2.2.2.1 i).mp hi).1).2
  constructor
  · intro x hx
    obtain ⟨i, hi, rfl⟩ := List.mem_map.mp hx
    exact h i hi
  · intro x hx
    obtain ⟨i, hi, rfl⟩ := List.mem_map.mp hx
    exact h i ((hL.2.2.2.2.2.2.1 i).mp hi)

set_option maxRecDepth 20000 in
set_option maxHeartbeats 1000000 in
theorem c_X7_interrupt {cy : Nat → ClassId} {S : Nat → Nat → Nat} {I : kI} {L : kL} {R : kRf} {LP : List Nat} {m : Mu} {rc : Nat → Nat} {ln qu : List Nat} {lg B : Nat} {c h0 : Nat} (hR : Rel m I L R LP rc ln qu lg) (hI : Inv m B) (hB : B < 2 ^ 30) (hlg : lg < 2 ^ 30) (hm : mOn m h0 = some c) (h03 : h0 < 3) : Con yX7_interrupt cX7_interrupt 2 none 3 0 0 cy [.ref (ka S 0 0), .ref (rc c)] (wc cy S I L R LP) (fun r w' => r = none ∧ RelX cy S LP rc (mInt m c) w') kF := by
  obtain ⟨hS, hC, hH, hL, hG, hT⟩ := hR
  have hR : Rel m I L R LP rc ln qu lg := ⟨hS, hC, hH, hL, hG, hT⟩
  have hRc := hC.2.2
  have hkk := hI.2.2.2.1
  have hh := hI.2.2.2.2.1
  have hc : c < mC m := mOn_lt hm
  have hms := mOn_some hm
  have ha : rc c ∈ LP := (hC.2.1.2.2 c hc).2
  obtain ⟨a0, a1, a2, a3, a4, a5, a6, a7, a8, a9⟩ := (hRc c hc).1
  obtain ⟨b0, b1, b2⟩ := (hRc c hc).2 hms.2.1
  have hch : I 20 (rc c) 8 = nI h0 := b0.trans hms.2.2
  have hl24 : ln.length < 24 := spk_lt ⟨c, hc, hms.2.1⟩ hI.2.2.2.2.2.1 hL
  refine Con_of (by decide +kernel) (Nat.le_of_ble_eq_true rfl) ?_
  refine J_eq (lv' := [(0, .ref (ka S 0 0)), (1, .ref (rc c))]) rfl rfl rfl ?_
  refine J_aload_n 0 rfl dX7_interrupt_0 ?_
  refine gf_7_26 (n0 _) dX7_interrupt_1 ?_
  refine J_aload_n 1 rfl dX7_interrupt_4 ?_
  refine cv_7_165 (cells' := 0) (slots' := 0) dX7_interrupt_5 (c_X0_free (a := rc c) (h := h0) ha hch h03) (n3 _) ⟨by decide, by decide⟩ rfl rfl (by decide) (by decide) (Nat.le_of_ble_eq_true rfl) (fun _ _ r1 => ?_) (fun _ _ h => h.elim)
  obtain ⟨rfl, rfl⟩ := r1
  refine J_eq (st' := []) rfl rfl rfl ?_
  refine J_aload_n 1 rfl dX7_interrupt_8 ?_
  refine J_bipush (v := 119) (by decide) dX7_interrupt_9 ?_
  refine pf_7_161 (by first | assumption | decide | simp) (by first | assumption | decide | simp) (n20 (by assumption)) dX7_interrupt_11 ?_
  refine J_aload_n 1 rfl dX7_interrupt_14 ?_
  refine J_dup rfl dX7_interrupt_15 ?_
  refine gf_7_203 (n20 (by assumption)) dX7_interrupt_16 ?_
  refine J_topeq (I 20 (rc c) 10) (by simp [ku]) ?_
  refine J_iconst (v := 1) (by decide) dX7_interrupt_19 ?_
  refine J_iadd dX7_interrupt_20 ?_
  refine pf_7_203 (n20 (by assumption)) dX7_interrupt_21 ?_
  refine J_aload_n 0 rfl dX7_interrupt_24 ?_
  refine gf_7_19 (n0 _) dX7_interrupt_25 ?_
  refine J_aload_n 1 rfl dX7_interrupt_28 ?_
  refine cv_7_195 (cells' := 0) (slots' := 0) dX7_interrupt_29 (c_X3_join (I := stI I (rc c)) (R := ku R 14 0 h0 none) (lo := ln.map rc) (lq := qu.map rc) (by rw [List.length_map]; exact hl24) (ln_LP hC hL).1 ha (by rw [List.length_map]; exact hL.1) (by rw [List.length_map, List.length_map]; exact hL.2.2.1) (arr_map hL.2.2.2.1 rfl) (arr_map hL.2.2.2.2.1 rfl)) (n2 _) ⟨by decide, by decide⟩ rfl rfl (by decide) (by decide) (Nat.le_of_ble_eq_true rfl) (fun _ _ r2 => ?_) (fun _ _ h => h.elim)
  obtain ⟨R1, k, rfl, rfl, j1, j2, j3, j4, j5, j6⟩ := r2
  refine J_eq (st' := []) rfl rfl rfl ?_
  have hR1 := rel_wait hR hkk hh hl24 hm h03 j1 j2 j3 j4 j5 j6
  refine J_aload_n 0 rfl dX7_interrupt_32 ?_
  refine gf_7_33 (n0 _) dX7_interrupt_33 ?_
  refine J_aload_n 0 rfl dX7_interrupt_36 ?_
  refine gf_7_171 (n0 _) dX7_interrupt_37 ?_
  refine J_topeq (m.1 30 26) (by exact hT.1) ?_
  refine J_bipush (v := 105) (by decide) dX7_interrupt_40 ?_
  refine J_aload_n 1 rfl dX7_interrupt_42 ?_
  refine gf_7_109 (n20 (by assumption)) dX7_interrupt_43 ?_
  refine J_topeq (nI c) (by simp [ku, stI]; exact a0) ?_
  refine cv_7_174 (cells' := 0) (slots' := 0) dX7_interrupt_46 (c_X4_write (nx := lg % 60) (kp := min lg 60) (by first | exact hG.2.2.1 | (simp [ku, stI]; exact hG.2.2.1)) (by first | exact hG.2.2.2.1 | (simp [ku, stI]; exact hG.2.2.2.1)) (by omega) (by omega) (by decide) (by decide)) (n4 _) ⟨by decide, by decide⟩ rfl rfl (by decide) (by decide) (Nat.le_of_ble_eq_true rfl) (fun _ _ r3 => ?_) (fun _ _ h => h.elim)
  obtain ⟨rfl, rfl⟩ := r3
  refine J_eq (st' := []) rfl rfl rfl ?_
  exact J_return rfl dX7_interrupt_49 (⟨rfl, _, _, _, _, _, _, rfl, rel_log hR1 (by omega) 105 (nI c), by omega⟩) (by omega) (by omega)

def mEnd (m : Mu) (c : Nat) : Mu := mLog (ms m 55 c 101) 101 (nI c)

set_option maxRecDepth 20000 in
set_option maxHeartbeats 1000000 in
theorem c_X7_end {cy : Nat → ClassId} {S : Nat → Nat → Nat} {I : kI} {L : kL} {R : kRf} {LP : List Nat} {m : Mu} {rc : Nat → Nat} {ln qu : List Nat} {lg B : Nat} {c h0 : Nat} (hR : Rel m I L R LP rc ln qu lg) (hI : Inv m B) (hB : B < 2 ^ 30) (hlg : lg < 2 ^ 30) (hm : mOn m h0 = some c) (h03 : h0 < 3) : Con yX7_end cX7_end 2 none 2 0 0 cy [.ref (ka S 0 0), .ref (rc c)] (wc cy S I L R LP) (fun r w' => r = none ∧ RelX cy S LP rc (mEnd m c) w') kF := by
  obtain ⟨hS, hC, hH, hL, hG, hT⟩ := hR
  have hR : Rel m I L R LP rc ln qu lg := ⟨hS, hC, hH, hL, hG, hT⟩
  have hRc := hC.2.2
  have hkk := hI.2.2.2.1
  have hh := hI.2.2.2.2.1
  have hc : c < mC m := mOn_lt hm
  have hms := mOn_some hm
  have ha : rc c ∈ LP := (hC.2.1.2.2 c hc).2
  obtain ⟨a0, a1, a2, a3, a4, a5, a6, a7, a8, a9⟩ := (hRc c hc).1
  obtain ⟨b0, b1, b2⟩ := (hRc c hc).2 hms.2.1
  have hch : I 20 (rc c) 8 = nI h0 := b0.trans hms.2.2
  refine Con_of (by decide +kernel) (Nat.le_of_ble_eq_true rfl) ?_
  refine J_eq (lv' := [(0, .ref (ka S 0 0)), (1, .ref (rc c))]) rfl rfl rfl ?_
  refine J_aload_n 0 rfl dX7_end_0 ?_
  refine gf_7_26 (n0 _) dX7_end_1 ?_
  refine J_aload_n 1 rfl dX7_end_4 ?_
  refine cv_7_165 (cells' := 0) (slots' := 0) dX7_end_5 (c_X0_free (a := rc c) (h := h0) ha hch h03) (n3 _) ⟨by decide, by decide⟩ rfl rfl (by decide) (by decide) (Nat.le_of_ble_eq_true rfl) (fun _ _ r1 => ?_) (fun _ _ h => h.elim)
  obtain ⟨rfl, rfl⟩ := r1
  refine J_eq (st' := []) rfl rfl rfl ?_
  refine J_aload_n 1 rfl dX7_end_8 ?_
  refine J_bipush (v := 101) (by decide) dX7_end_9 ?_
  refine pf_7_161 (by first | assumption | decide | simp) (by first | assumption | decide | simp) (n20 (by assumption)) dX7_end_11 ?_
  refine J_aload_n 0 rfl dX7_end_14 ?_
  refine gf_7_33 (n0 _) dX7_end_15 ?_
  refine J_aload_n 0 rfl dX7_end_18 ?_
  refine gf_7_171 (n0 _) dX7_end_19 ?_
  refine J_topeq (m.1 30 26) (by exact hT.1) ?_
  refine J_bipush (v := 101) (by decide) dX7_end_22 ?_
  refine J_aload_n 1 rfl dX7_end_24 ?_
  refine gf_7_109 (n20 (by assumption)) dX7_end_25 ?_
  refine J_topeq (nI c) (by simp [ku, stI]; exact a0) ?_
  refine cv_7_174 (cells' := 0) (slots' := 0) dX7_end_28 (c_X4_write (nx := lg % 60) (kp := min lg 60) (by first | exact hG.2.2.1 | (simp [ku, stI]; exact hG.2.2.1)) (by first | exact hG.2.2.2.1 | (simp [ku, stI]; exact hG.2.2.2.1)) (by omega) (by omega) (by decide) (by decide)) (n4 _) ⟨by decide, by decide⟩ rfl rfl (by decide) (by decide) (Nat.le_of_ble_eq_true rfl) (fun _ _ r2 => ?_) (fun _ _ h => h.elim)
  obtain ⟨rfl, rfl⟩ := r2
  refine J_eq (st' := []) rfl rfl rfl ?_
  exact J_return rfl dX7_end_31 (⟨rfl, _, _, _, _, _, _, rfl, rel_log (rel_over (v := 101) hR hh hm h03 (by decide) (by decide)) (by omega) 101 (nI c), by omega⟩) (by omega) (by omega)

