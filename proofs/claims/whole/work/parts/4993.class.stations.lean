/-! the public calls that change: stations -/
section ST
variable {m : Mu} {I : kI} {L : kL} {R : kRf} {LP : List Nat} {rc : Nat → Nat} {ln qu : List Nat} {lg B : Nat}
def mvM (m : Mu) (s : Nat) (p : Int32) : Mu := ms m 41 s p
theorem rel_mv {s : Nat} {p : Int32} (hR : Rel m I L R LP rc ln qu lg) (hs : s < mS m) : Rel (mvM m s p) (ku I 17 s 0 p) L R LP rc ln qu lg := by
  obtain ⟨⟨s1, s2, s3, s4⟩, hC, hH, hL, hG, hT⟩ := hR
  refine ⟨⟨s1, s2, fun x hx => ?_, fun x hx => ?_⟩, hC, hH, hL, hG, hT⟩
  · obtain ⟨p, q, r⟩ := s3 x hx
    simp [ku, mvM, ms]
    exact ⟨p, q, r⟩
  · obtain ⟨p, q, r⟩ := s4 x hx
    by_cases e : x = s
    · subst e; simp [ku, mvM, ms, q, r]
    · simp [ku, mvM, ms, e, p, q, r]
theorem inv_mv {s : Nat} {p : Int32} (hI : Inv m B) (hp : 0 ≤ p ∧ p ≤ 300) : Inv (mvM m s p) B := by
  obtain ⟨a, b, c⟩ := hI
  refine ⟨a, fun x hx => ?_, c⟩
  by_cases e : x = s
  · subst e; show 0 ≤ (ms m 41 x p).1 41 x ∧ _; unfold mvM; rw [ms_eq]; exact hp
  · unfold mvM; rw [ms_j _ _ _ e]; exact b x hx
def adM (m : Mu) (p r : Int32) : Mu := ms (ms (ms m 41 (mS m) p) 42 (mS m) r) 30 0 (m.1 30 0 + 1)
theorem ad_S (hS : relS m I) {p r : Int32} : mS (adM m p r) = mS m + 1 := by
  have h10 := hS.2.1.2
  show (m.1 30 0 + 1).toNatClampNeg = _
  rw [hS.1, nI_1, nI_toNat (by omega)]
theorem rel_ad {p r : Int32} (hR : Rel m I L R LP rc ln qu lg) (hI : Inv m B) (h9 : mS m < 10) : Rel (adM m p r) (ku (ku (ku (ku I 17 (mS m) 0 p) 17 (mS m) 1 r) 17 (mS m) 2 1) 1 0 5 (nI (mS m + 1))) L R LP rc ln qu lg := by
  obtain ⟨hS, hC, hH, hL, hG, hT⟩ := hR
  have e := ad_S hS (p := p) (r := r)
  have hz := hI.2.2.2.2.2.2.2.1.2.1 (mS m) (Nat.le_refl _)
  obtain ⟨s1, s2, s3, s4⟩ := hS
  refine ⟨⟨?_, ⟨?_, by rw [e]; omega⟩, fun x hx => ?_, fun x hx => ?_⟩, hC, hH, hL, hG, hT⟩
  · rw [e]; show m.1 30 0 + 1 = _; rw [s1, nI_1]
  · rw [e, ku_eq]
  · obtain ⟨p, q, r⟩ := s3 x hx
    simp [ku, adM, ms]
    exact ⟨p, q, r⟩
  · rw [e] at hx
    by_cases w : x = mS m
    · subst w; simp [ku, adM, ms, hz]
    · obtain ⟨p, q, r⟩ := s4 x (by omega)
      simp [ku, adM, ms, w, p, q, r]
theorem inv_ad {p r : Int32} (hS : relS m I) (hI : Inv m B) (h9 : mS m < 10) (hp : 0 ≤ p ∧ p ≤ 300) : Inv (adM m p r) B := by
  have e := ad_S hS (p := p) (r := r)
  obtain ⟨a, b, c, d, e1, f, g, i, j⟩ := hI
  refine ⟨by rw [e]; omega, fun x hx => ?_, c, fun x hx => ?_, e1, f, g, ⟨i.1, fun s hs => ?_, i.2.2⟩, j⟩
  · rw [e] at hx
    by_cases w : x = mS m
    · subst w; simp [adM, ms]; exact hp
    · have := b x (by omega)
      simp [adM, ms, w]; exact this
  · obtain ⟨⟨f, t, d1, d2, d3, d4, d5⟩, d6⟩ := d x hx
    exact ⟨⟨f, t, d1, by rw [e]; omega, d3, by rw [e]; omega, d5⟩, d6⟩
  · rw [e] at hs; exact i.2.1 s (by omega)
end ST

set_option maxRecDepth 20000 in
set_option maxHeartbeats 1000000 in
theorem c_X7_move_s {cy : Nat → ClassId} {S : Nat → Nat → Nat} {I : kI} {L : kL} {R : kRf} {LP : List Nat} {m : Mu} {rc : Nat → Nat} {ln qu : List Nat} {lg B : Nat} {s : Nat} {p : Int32} (hR : Rel m I L R LP rc ln qu lg) (hI : Inv m B) (hB : B + 4100 < 2 ^ 30) (hlg : lg < 2 ^ 30) (hs : s < mS m) (hp : 0 ≤ p ∧ p ≤ 300) : Con yX7_move cX7_move 5 (some .int) 11 0 0 cy [.ref (ka S 0 0), .int (nI s), .int p] (wc cy S I L R LP) (fun r w' => r = some (.int (m.1 41 s)) ∧ RelX cy S LP rc (mSpeak (mvM m s p)) w') kF := by
  obtain ⟨hS, hC, hH, hL, hG, hT⟩ := hR
  have hR : Rel m I L R LP rc ln qu lg := ⟨hS, hC, hH, hL, hG, hT⟩
  have hRc := hC.2.2
  have hkk := hI.2.2.2.1
  have hh := hI.2.2.2.2.1
  have hst := hS.2.1
  have hst2 := hst.2
  have hs10 : s < 10 := by omega
  obtain ⟨g0, g1, g2⟩ := hS.2.2.2 s hs
  obtain ⟨g3, g4, g5⟩ := hS.2.2.1 s hs10
  refine Con_of (by decide +kernel) (Nat.le_of_ble_eq_true rfl) ?_
  refine J_eq (lv' := [(0, .ref (ka S 0 0)), (1, .int (nI s)), (2, .int p)]) rfl rfl rfl ?_
  refine J_aload_n 0 rfl dX7_move_0 ?_
  refine gf_7_10 (n0 _) dX7_move_1 ?_
  refine J_iload_n 1 rfl dX7_move_4 ?_
  refine cv_7_70 (cells' := 0) (slots' := 0) dX7_move_5 (c_X1_numbered_s hst hs) (n1 _) ⟨by decide, by decide⟩ rfl rfl (by decide) (by decide) (Nat.le_of_ble_eq_true rfl) (fun _ _ r1 => ?_) (fun _ _ h => h.elim)
  obtain ⟨rfl, rfl⟩ := r1
  refine J_eq (st' := [.ref (ka S 17 s)]) rfl rfl rfl ?_
  refine J_astore_n (lv' := [(0, .ref (ka S 0 0)), (1, .int (nI s)), (2, .int p), (3, .ref (ka S 17 s))]) (by decide) rfl dX7_move_8 ?_
  refine J_iload_n 2 rfl dX7_move_9 ?_
  refine cv_7_43 (i := 0) (cells' := 0) (slots' := 0) dX7_move_10 (c_X7_isPlace) ⟨by decide, by decide⟩ rfl rfl (by decide) (by decide) (Nat.le_of_ble_eq_true rfl) (fun _ _ r2 => ?_) (fun _ _ h => h.elim)
  obtain ⟨rfl, rfl⟩ := r2
  refine J_eq (st' := [.int (kb (plcF p))]) rfl rfl rfl ?_
  refine J_topeq 1 (by unfold plcF; rw [decide_eq_true hp.1, decide_eq_true hp.2]; rfl) ?_
  refine J_if_ne 26 (by decide) dX7_move_13 (fun c3 => ?_) (fun c3 => ?_)
  rotate_left
  · exact absurd c3 (by decide)
  refine J_aload_n 3 rfl dX7_move_26 ?_
  refine gf_7_76 (n17 _ (by omega)) dX7_move_27 ?_
  refine J_topeq (m.1 41 s) (by exact g0) ?_
  refine J_istore (lv' := [(0, .ref (ka S 0 0)), (1, .int (nI s)), (2, .int p), (3, .ref (ka S 17 s)), (4, .int (m.1 41 s))]) (by decide) rfl dX7_move_30 ?_
  refine J_aload_n 3 rfl dX7_move_32 ?_
  refine J_iload_n 2 rfl dX7_move_33 ?_
  refine pf_7_76 (n17 _ (by omega)) dX7_move_34 ?_
  refine J_aload_n 0 rfl dX7_move_37 ?_
  refine cv_7_67 (cells' := 0) (slots' := 0) dX7_move_38 (c_X7_letSpeak (rel_mv hR hs) (inv_mv hI hp) (by omega) hlg) (n0 _) ⟨by decide, by decide⟩ rfl rfl (by decide) (by decide) (Nat.le_of_ble_eq_true rfl) (fun _ _ r4 => ?_) (fun _ _ h => h.elim)
  obtain ⟨rfl, I4, L4, R4, ln4, qu4, lg4, rfl, hR4, hl4⟩ := r4
  refine J_eq (st' := []) rfl rfl rfl ?_
  refine J_iload 4 rfl dX7_move_41 ?_
  exact J_ireturn rfl (by first | rfl | assumption | simp [kb_nar]) dX7_move_43 (⟨rfl, I4, L4, R4, ln4, qu4, lg4, rfl, hR4, hl4⟩) (by omega) (by omega)

set_option maxRecDepth 20000 in
set_option maxHeartbeats 1000000 in
theorem c_X7_move_y {cy : Nat → ClassId} {S : Nat → Nat → Nat} {I : kI} {L : kL} {R : kRf} {LP : List Nat} {m : Mu} {rc : Nat → Nat} {ln qu : List Nat} {lg B : Nat} {s : Nat} {p : Int32} (hR : Rel m I L R LP rc ln qu lg) (hI : Inv m B) (hB : B < 2 ^ 30) (hlg : lg < 2 ^ 30) (hs : s < mS m) (hp : ¬ (0 ≤ p ∧ p ≤ 300)) : Con yX7_move cX7_move 5 (some .int) 7 1 6 cy [.ref (ka S 0 0), .int (nI s), .int p] (wc cy S I L R LP) kNo (kTX "java/lang/IllegalArgumentException" cy S LP rc m) := by
  obtain ⟨hS, hC, hH, hL, hG, hT⟩ := hR
  have hR : Rel m I L R LP rc ln qu lg := ⟨hS, hC, hH, hL, hG, hT⟩
  have hRc := hC.2.2
  have hkk := hI.2.2.2.1
  have hh := hI.2.2.2.2.1
  have hst := hS.2.1
  have hst2 := hst.2
  have hs10 : s < 10 := by omega
  obtain ⟨g0, g1, g2⟩ := hS.2.2.2 s hs
  obtain ⟨g3, g4, g5⟩ := hS.2.2.1 s hs10
  have hpf : plcF p = false := by unfold plcF; by_cases a : 0 ≤ p <;> by_cases b : p ≤ 300 <;> simp [a, b] <;> exact hp ⟨a, b⟩
  refine Con_of (by decide +kernel) (Nat.le_of_ble_eq_true rfl) ?_
  refine J_eq (lv' := [(0, .ref (ka S 0 0)), (1, .int (nI s)), (2, .int p)]) rfl rfl rfl ?_
  refine J_aload_n 0 rfl dX7_move_0 ?_
  refine gf_7_10 (n0 _) dX7_move_1 ?_
  refine J_iload_n 1 rfl dX7_move_4 ?_
  refine cv_7_70 (cells' := 0) (slots' := 0) dX7_move_5 (c_X1_numbered_s hst hs) (n1 _) ⟨by decide, by decide⟩ rfl rfl (by decide) (by decide) (Nat.le_of_ble_eq_true rfl) (fun _ _ r1 => ?_) (fun _ _ h => h.elim)
  obtain ⟨rfl, rfl⟩ := r1
  refine J_eq (st' := [.ref (ka S 17 s)]) rfl rfl rfl ?_
  refine J_astore_n (lv' := [(0, .ref (ka S 0 0)), (1, .int (nI s)), (2, .int p), (3, .ref (ka S 17 s))]) (by decide) rfl dX7_move_8 ?_
  refine J_iload_n 2 rfl dX7_move_9 ?_
  refine cv_7_43 (i := 0) (cells' := 0) (slots' := 0) dX7_move_10 (c_X7_isPlace) ⟨by decide, by decide⟩ rfl rfl (by decide) (by decide) (Nat.le_of_ble_eq_true rfl) (fun _ _ r2 => ?_) (fun _ _ h => h.elim)
  obtain ⟨rfl, rfl⟩ := r2
  refine J_eq (st' := [.int (kb (plcF p))]) rfl rfl rfl ?_
  refine J_topeq 0 (by rw [hpf]; rfl) ?_
  refine J_if_ne 26 (by decide) dX7_move_13 (fun c3 => ?_) (fun c3 => ?_)
  · exact absurd (by decide) c3
  exact J_throw (E := "java/lang/IllegalArgumentException") (text := "place out of range") (ik := 47) (is := 74) (ic := 51) exc_IllegalArgumentException (by decide +kernel) cl_7_47 ini_IllegalArgumentException at_7_51 fit_IllegalArgumentException (⟨rfl, I, L, R, ln, qu, lg, rfl, hR, by omega⟩) (by decide) (Nat.le_of_ble_eq_true rfl) (by decide) (by decide) dX7_move_16 dX7_move_19 dX7_move_20 dX7_move_22 dX7_move_25

set_option maxRecDepth 20000 in
set_option maxHeartbeats 1000000 in
theorem c_X7_move_x {cy : Nat → ClassId} {S : Nat → Nat → Nat} {I : kI} {L : kL} {R : kRf} {LP : List Nat} {m : Mu} {rc : Nat → Nat} {ln qu : List Nat} {lg B : Nat} {x p : Int32} (hR : Rel m I L R LP rc ln qu lg) (hI : Inv m B) (hB : B < 2 ^ 30) (hlg : lg < 2 ^ 30) (hx : ∀ s, s < mS m → x ≠ nI s) : Con yX7_move cX7_move 5 (some .int) 7 1 6 cy [.ref (ka S 0 0), .int x, .int p] (wc cy S I L R LP) kNo (kTX "java/lang/IndexOutOfBoundsException" cy S LP rc m) := by
  obtain ⟨hS, hC, hH, hL, hG, hT⟩ := hR
  have hR : Rel m I L R LP rc ln qu lg := ⟨hS, hC, hH, hL, hG, hT⟩
  have hRc := hC.2.2
  have hkk := hI.2.2.2.1
  have hh := hI.2.2.2.2.1
  have hst := hS.2.1
  have hst2 := hst.2
  refine Con_of (by decide +kernel) (Nat.le_of_ble_eq_true rfl) ?_
  refine J_eq (lv' := [(0, .ref (ka S 0 0)), (1, .int x), (2, .int p)]) rfl rfl rfl ?_
  refine J_aload_n 0 rfl dX7_move_0 ?_
  refine gf_7_10 (n0 _) dX7_move_1 ?_
  refine J_iload_n 1 rfl dX7_move_4 ?_
  exact cv_7_70 (cells' := 1) (slots' := 6) dX7_move_5 (c_X1_numbered_x hst hx) (n1 _) ⟨by decide, by decide⟩ rfl rfl (by decide) (by decide) (Nat.le_of_ble_eq_true rfl) (fun _ _ h => h.elim) (fun E9 w9 h9 => by obtain ⟨rfl, rfl⟩ := h9; exact ⟨rfl, I, L, R, ln, qu, lg, rfl, hR, by omega⟩)

set_option maxRecDepth 20000 in
set_option maxHeartbeats 1000000 in
theorem c_X7_addStation_s {cy : Nat → ClassId} {S : Nat → Nat → Nat} {I : kI} {L : kL} {R : kRf} {LP : List Nat} {m : Mu} {rc : Nat → Nat} {ln qu : List Nat} {lg B : Nat} {p z : Int32} (hR : Rel m I L R LP rc ln qu lg) (hI : Inv m B) (hB : B + 4100 < 2 ^ 30) (hlg : lg < 2 ^ 30) (hp : 0 ≤ p ∧ p ≤ 300) (hr : 1 ≤ z ∧ z ≤ 100) (h9 : mS m < 10) : Con yX7_addStation cX7_addStation 4 (some .int) 11 0 0 cy [.ref (ka S 0 0), .int p, .int z] (wc cy S I L R LP) (fun r w' => r = some (.int (nI (mS m))) ∧ RelX cy S LP rc (mSpeak (adM m p z)) w') kF := by
  obtain ⟨hS, hC, hH, hL, hG, hT⟩ := hR
  have hR : Rel m I L R LP rc ln qu lg := ⟨hS, hC, hH, hL, hG, hT⟩
  have hRc := hC.2.2
  have hkk := hI.2.2.2.1
  have hh := hI.2.2.2.2.1
  have hst := hS.2.1
  have hst2 := hst.2
  refine Con_of (by decide +kernel) (Nat.le_of_ble_eq_true rfl) ?_
  refine J_eq (lv' := [(0, .ref (ka S 0 0)), (1, .int p), (2, .int z)]) rfl rfl rfl ?_
  refine J_iload_n 1 rfl dX7_addStation_0 ?_
  refine cv_7_43 (i := 0) (cells' := 0) (slots' := 0) dX7_addStation_1 (c_X7_isPlace) ⟨by decide, by decide⟩ rfl rfl (by decide) (by decide) (Nat.le_of_ble_eq_true rfl) (fun _ _ r1 => ?_) (fun _ _ h => h.elim)
  obtain ⟨rfl, rfl⟩ := r1
  refine J_eq (st' := [.int (kb (plcF p))]) rfl rfl rfl ?_
  refine J_topeq 1 (by unfold plcF; rw [decide_eq_true hp.1, decide_eq_true hp.2]; rfl) ?_
  refine J_if_eq 18 (by decide) dX7_addStation_4 (fun c2 => ?_) (fun c2 => ?_)
  · exact absurd c2 (by decide)
  refine J_iload_n 2 rfl dX7_addStation_7 ?_
  refine J_iconst (v := 1) (by decide) dX7_addStation_8 ?_
  refine J_icmp_lt 18 (by decide) dX7_addStation_9 (fun c3 => ?_) (fun c3 => ?_)
  · exfalso
    exact absurd hr.1 (by grind)
  refine J_iload_n 2 rfl dX7_addStation_12 ?_
  refine J_bipush (v := 100) (by decide) dX7_addStation_13 ?_
  refine J_icmp_le 28 (by decide) dX7_addStation_15 (fun c4 => ?_) (fun c4 => ?_)
  rotate_left
  · exfalso
    exact c4 hr.2
  refine J_aload_n 0 rfl dX7_addStation_28 ?_
  refine gf_7_10 (n0 _) dX7_addStation_29 ?_
  refine cv_7_54 (cells' := 0) (slots' := 0) dX7_addStation_32 (c_X1_isFull hst) (n1 _) ⟨by decide, by decide⟩ rfl rfl (by decide) (by decide) (Nat.le_of_ble_eq_true rfl) (fun _ _ r5 => ?_) (fun _ _ h => h.elim)
  obtain ⟨rfl, rfl⟩ := r5
  refine J_eq (st' := [.int (kb (decide (10 ≤ mS m)))]) rfl rfl rfl ?_
  refine J_topeq 0 (by rw [decide_eq_false (show ¬ 10 ≤ mS m by omega)]; rfl) ?_
  refine J_if_eq 48 (by decide) dX7_addStation_35 (fun c6 => ?_) (fun c6 => ?_)
  rotate_left
  · exact absurd (by decide) c6
  refine J_aload_n 0 rfl dX7_addStation_48 ?_
  refine gf_7_10 (n0 _) dX7_addStation_49 ?_
  refine J_iload_n 1 rfl dX7_addStation_52 ?_
  refine J_iload_n 2 rfl dX7_addStation_53 ?_
  refine cv_7_63 (cells' := 0) (slots' := 0) dX7_addStation_54 (c_X1_add hst h9) (n1 _) ⟨by decide, by decide⟩ rfl rfl (by decide) (by decide) (Nat.le_of_ble_eq_true rfl) (fun _ _ r7 => ?_) (fun _ _ h => h.elim)
  obtain ⟨rfl, rfl⟩ := r7
  refine J_eq (st' := [.int (nI (mS m))]) rfl rfl rfl ?_
  refine J_istore_n (lv' := [(0, .ref (ka S 0 0)), (1, .int p), (2, .int z), (3, .int (nI (mS m)))]) (by decide) rfl dX7_addStation_57 ?_
  refine J_aload_n 0 rfl dX7_addStation_58 ?_
  refine cv_7_67 (cells' := 0) (slots' := 0) dX7_addStation_59 (c_X7_letSpeak (rel_ad hR hI h9) (inv_ad hS hI h9 hp) (by omega) hlg) (n0 _) ⟨by decide, by decide⟩ rfl rfl (by decide) (by decide) (Nat.le_of_ble_eq_true rfl) (fun _ _ r8 => ?_) (fun _ _ h => h.elim)
  obtain ⟨rfl, I4, L4, R4, ln4, qu4, lg4, rfl, hR4, hl4⟩ := r8
  refine J_eq (st' := []) rfl rfl rfl ?_
  refine J_iload_n 3 rfl dX7_addStation_62 ?_
  exact J_ireturn rfl (by first | rfl | assumption | simp [kb_nar]) dX7_addStation_63 (⟨rfl, I4, L4, R4, ln4, qu4, lg4, rfl, hR4, hl4⟩) (by omega) (by omega)

set_option maxRecDepth 20000 in
set_option maxHeartbeats 1000000 in
theorem c_X7_addStation_y {cy : Nat → ClassId} {S : Nat → Nat → Nat} {I : kI} {L : kL} {R : kRf} {LP : List Nat} {m : Mu} {rc : Nat → Nat} {ln qu : List Nat} {lg B : Nat} {p z : Int32} (hR : Rel m I L R LP rc ln qu lg) (hI : Inv m B) (hB : B < 2 ^ 30) (hlg : lg < 2 ^ 30) (hp : 0 ≤ p ∧ p ≤ 300) (hr : 1 ≤ z ∧ z ≤ 100) (h9 : ¬ mS m < 10) : Con yX7_addStation cX7_addStation 4 (some .int) 7 1 6 cy [.ref (ka S 0 0), .int p, .int z] (wc cy S I L R LP) kNo (kTX "java/lang/IllegalStateException" cy S LP rc m) := by
  obtain ⟨hS, hC, hH, hL, hG, hT⟩ := hR
  have hR : Rel m I L R LP rc ln qu lg := ⟨hS, hC, hH, hL, hG, hT⟩
  have hRc := hC.2.2
  have hkk := hI.2.2.2.1
  have hh := hI.2.2.2.2.1
  have hst := hS.2.1
  have hst2 := hst.2
  refine Con_of (by decide +kernel) (Nat.le_of_ble_eq_true rfl) ?_
  refine J_eq (lv' := [(0, .ref (ka S 0 0)), (1, .int p), (2, .int z)]) rfl rfl rfl ?_
  refine J_iload_n 1 rfl dX7_addStation_0 ?_
  refine cv_7_43 (i := 0) (cells' := 0) (slots' := 0) dX7_addStation_1 (c_X7_isPlace) ⟨by decide, by decide⟩ rfl rfl (by decide) (by decide) (Nat.le_of_ble_eq_true rfl) (fun _ _ r1 => ?_) (fun _ _ h => h.elim)
  obtain ⟨rfl, rfl⟩ := r1
  refine J_eq (st' := [.int (kb (plcF p))]) rfl rfl rfl ?_
  refine J_topeq 1 (by unfold plcF; rw [decide_eq_true hp.1, decide_eq_true hp.2]; rfl) ?_
  refine J_if_eq 18 (by decide) dX7_addStation_4 (fun c2 => ?_) (fun c2 => ?_)
  · exact absurd c2 (by decide)
  refine J_iload_n 2 rfl dX7_addStation_7 ?_
  refine J_iconst (v := 1) (by decide) dX7_addStation_8 ?_
  refine J_icmp_lt 18 (by decide) dX7_addStation_9 (fun c3 => ?_) (fun c3 => ?_)
  · exfalso
    exact absurd hr.1 (by grind)
  refine J_iload_n 2 rfl dX7_addStation_12 ?_
  refine J_bipush (v := 100) (by decide) dX7_addStation_13 ?_
  refine J_icmp_le 28 (by decide) dX7_addStation_15 (fun c4 => ?_) (fun c4 => ?_)
  rotate_left
  · exfalso
    exact c4 hr.2
  refine J_aload_n 0 rfl dX7_addStation_28 ?_
  refine gf_7_10 (n0 _) dX7_addStation_29 ?_
  refine cv_7_54 (cells' := 0) (slots' := 0) dX7_addStation_32 (c_X1_isFull hst) (n1 _) ⟨by decide, by decide⟩ rfl rfl (by decide) (by decide) (Nat.le_of_ble_eq_true rfl) (fun _ _ r5 => ?_) (fun _ _ h => h.elim)
  obtain ⟨rfl, rfl⟩ := r5
  refine J_eq (st' := [.int (kb (decide (10 ≤ mS m)))]) rfl rfl rfl ?_
  refine J_topeq 1 (by rw [decide_eq_true (show 10 ≤ mS m by omega)]; rfl) ?_
  refine J_if_eq 48 (by decide) dX7_addStation_35 (fun c6 => ?_) (fun c6 => ?_)
  · exact absurd c6 (by decide)
  exact J_throw (E := "java/lang/IllegalStateException") (text := "no more stations") (ik := 58) (is := 60) (ic := 62) exc_IllegalStateException (by decide +kernel) cl_7_58 ini_IllegalStateException at_7_62 fit_IllegalStateException (⟨rfl, I, L, R, ln, qu, lg, rfl, hR, by omega⟩) (by decide) (Nat.le_of_ble_eq_true rfl) (by decide) (by decide) dX7_addStation_38 dX7_addStation_41 dX7_addStation_42 dX7_addStation_44 dX7_addStation_47

set_option maxRecDepth 20000 in
set_option maxHeartbeats 1000000 in
theorem c_X7_addStation_x {cy : Nat → ClassId} {S : Nat → Nat → Nat} {I : kI} {L : kL} {R : kRf} {LP : List Nat} {m : Mu} {rc : Nat → Nat} {ln qu : List Nat} {lg B : Nat} {p z : Int32} (hR : Rel m I L R LP rc ln qu lg) (hI : Inv m B) (hB : B < 2 ^ 30) (hlg : lg < 2 ^ 30) (hp : ¬ (0 ≤ p ∧ p ≤ 300)) : Con yX7_addStation cX7_addStation 4 (some .int) 7 1 6 cy [.ref (ka S 0 0), .int p, .int z] (wc cy S I L R LP) kNo (kTX "java/lang/IllegalArgumentException" cy S LP rc m) := by
  obtain ⟨hS, hC, hH, hL, hG, hT⟩ := hR
  have hR : Rel m I L R LP rc ln qu lg := ⟨hS, hC, hH, hL, hG, hT⟩
  have hRc := hC.2.2
  have hkk := hI.2.2.2.1
  have hh := hI.2.2.2.2.1
  have hst := hS.2.1
  have hst2 := hst.2
  have hpf : plcF p = false := by unfold plcF; by_cases a : 0 ≤ p <;> by_cases b : p ≤ 300 <;> simp [a, b] <;> exact hp ⟨a, b⟩
  refine Con_of (by decide +kernel) (Nat.le_of_ble_eq_true rfl) ?_
  refine J_eq (lv' := [(0, .ref (ka S 0 0)), (1, .int p), (2, .int z)]) rfl rfl rfl ?_
  refine J_iload_n 1 rfl dX7_addStation_0 ?_
  refine cv_7_43 (i := 0) (cells' := 0) (slots' := 0) dX7_addStation_1 (c_X7_isPlace) ⟨by decide, by decide⟩ rfl rfl (by decide) (by decide) (Nat.le_of_ble_eq_true rfl) (fun _ _ r1 => ?_) (fun _ _ h => h.elim)
  obtain ⟨rfl, rfl⟩ := r1
  refine J_eq (st' := [.int (kb (plcF p))]) rfl rfl rfl ?_
  refine J_topeq 0 (by rw [hpf]; rfl) ?_
  refine J_if_eq 18 (by decide) dX7_addStation_4 (fun c2 => ?_) (fun c2 => ?_)
  rotate_left
  · exact absurd (by decide) c2
  exact J_throw (E := "java/lang/IllegalArgumentException") (text := "place or reach out of range") (ik := 47) (is := 49) (ic := 51) exc_IllegalArgumentException (by decide +kernel) cl_7_47 ini_IllegalArgumentException at_7_51 fit_IllegalArgumentException (⟨rfl, I, L, R, ln, qu, lg, rfl, hR, by omega⟩) (by decide) (Nat.le_of_ble_eq_true rfl) (by decide) (by decide) dX7_addStation_18 dX7_addStation_21 dX7_addStation_22 dX7_addStation_24 dX7_addStation_27

set_option maxRecDepth 20000 in
set_option maxHeartbeats 1000000 in
theorem c_X7_addStation_z {cy : Nat → ClassId} {S : Nat → Nat → Nat} {I : kI} {L : kL} {R : kRf} {LP : List Nat} {m : Mu} {rc : Nat → Nat} {ln qu : List Nat} {lg B : Nat} {p z : Int32} (hR : Rel m I L R LP rc ln qu lg) (hI : Inv m B) (hB : B < 2 ^ 30) (hlg : lg < 2 ^ 30) (hp : 0 ≤ p ∧ p ≤ 300) (hr : ¬ (1 ≤ z ∧ z ≤ 100)) : Con yX7_addStation cX7_addStation 4 (some .int) 7 1 6 cy [.ref (ka S 0 0), .int p, .int z] (wc cy S I L R LP) kNo (kTX "java/lang/IllegalArgumentException" cy S LP rc m) := by
  obtain ⟨hS, hC, hH, hL, hG, hT⟩ := hR
  have hR : Rel m I L R LP rc ln qu lg := ⟨hS, hC, hH, hL, hG, hT⟩
  have hRc := hC.2.2
  have hkk := hI.2.2.2.1
  have hh := hI.2.2.2.2.1
  have hst := hS.2.1
  have hst2 := hst.2
  refine Con_of (by decide +kernel) (Nat.le_of_ble_eq_true rfl) ?_
  refine J_eq (lv' := [(0, .ref (ka S 0 0)), (1, .int p), (2, .int z)]) rfl rfl rfl ?_
  refine J_iload_n 1 rfl dX7_addStation_0 ?_
  refine cv_7_43 (i := 0) (cells' := 0) (slots' := 0) dX7_addStation_1 (c_X7_isPlace) ⟨by decide, by decide⟩ rfl rfl (by decide) (by decide) (Nat.le_of_ble_eq_true rfl) (fun _ _ r1 => ?_) (fun _ _ h => h.elim)
  obtain ⟨rfl, rfl⟩ := r1
  refine J_eq (st' := [.int (kb (plcF p))]) rfl rfl rfl ?_
  refine J_topeq 1 (by unfold plcF; rw [decide_eq_true hp.1, decide_eq_true hp.2]; rfl) ?_
  refine J_if_eq 18 (by decide) dX7_addStation_4 (fun c2 => ?_) (fun c2 => ?_)
  · exact absurd c2 (by decide)
  refine J_iload_n 2 rfl dX7_addStation_7 ?_
  refine J_iconst (v := 1) (by decide) dX7_addStation_8 ?_
  refine J_icmp_lt 18 (by decide) dX7_addStation_9 (fun c3 => ?_) (fun c3 => ?_)
  · skip
    exact J_throw (E := "java/lang/IllegalArgumentException") (text := "place or reach out of range") (ik := 47) (is := 49) (ic := 51) exc_IllegalArgumentException (by decide +kernel) cl_7_47 ini_IllegalArgumentException at_7_51 fit_IllegalArgumentException (⟨rfl, I, L, R, ln, qu, lg, rfl, hR, by omega⟩) (by decide) (Nat.le_of_ble_eq_true rfl) (by decide) (by decide) dX7_addStation_18 dX7_addStation_21 dX7_addStation_22 dX7_addStation_24 dX7_addStation_27
  · skip
    refine J_iload_n 2 rfl dX7_addStation_12 ?_
    refine J_bipush (v := 100) (by decide) dX7_addStation_13 ?_
    refine J_icmp_le 28 (by decide) dX7_addStation_15 (fun c4 => ?_) (fun c4 => ?_)
    · exfalso
      exact hr ⟨by grind, c4⟩
    exact J_throw (E := "java/lang/IllegalArgumentException") (text := "place or reach out of range") (ik := 47) (is := 49) (ic := 51) exc_IllegalArgumentException (by decide +kernel) cl_7_47 ini_IllegalArgumentException at_7_51 fit_IllegalArgumentException (⟨rfl, I, L, R, ln, qu, lg, rfl, hR, by omega⟩) (by decide) (Nat.le_of_ble_eq_true rfl) (by decide) (by decide) dX7_addStation_18 dX7_addStation_21 dX7_addStation_22 dX7_addStation_24 dX7_addStation_27

