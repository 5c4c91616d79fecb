/-! Coast: joinWays -/
def f11 (I0 I : kI) : Prop := ∀ k i, k ≠ 11 → I k i = I0 k i
theorem f11.st {I0 I : kI} {ns : Nat} (h : f11 I0 I) (hs : stF I0 ns) : stF I ns := ⟨by rw [h 1 0 (by decide)]; exact hs.1, hs.2⟩
theorem f11.lk {I0 I : kI} (h : f11 I0 I) (a b : Nat) : linkB I a b = linkB I0 a b := linkB_congr (fun i => h 17 i (by decide)) a b
def mtx (I : kI) (ns : Nat) (J : Nat → Nat → Nat) : Prop := ∀ a b, a < ns → b < ns → I 11 a b = nI (J a b)
theorem fInv_le {adj : Nat → Nat → Bool} {n k : Nat} {J : Nat → Nat → Nat} {d : Nat → Nat → Prop} (h : fInv adj n k J d) {a b : Nat} (ha : a < n) (hb : b < n) : J a b ≤ 1000 := (h a b ha hb).1
theorem fInv_iff {adj : Nat → Nat → Bool} {n k : Nat} {J : Nat → Nat → Nat} {d d' : Nat → Nat → Prop} (h : fInv adj n k J d) (hd : ∀ a b, a < n → b < n → d' a b → d a b) : fInv adj n k J d' := fun a b ha hb => ⟨(h a b ha hb).1, (h a b ha hb).2.1, (h a b ha hb).2.2.1, fun q => (h a b ha hb).2.2.2 (hd a b ha hb q)⟩

set_option maxRecDepth 20000 in
theorem c_X1_directSteps {cy : Nat → ClassId} {S : Nat → Nat → Nat} {I : kI} {L : kL} {R : kRf} {LP : List Nat} {ns s t : Nat} (hst : stF I ns) (hs : s < ns) (ht : t < ns) : Con yX1_directSteps cX1_directSteps 3 (some .int) 8 0 0 cy [.ref (ka S 1 0), .int (nI s), .int (nI t)] (wc cy S I L R LP) (kRet (some (.int (nI (if s = t then 0 else if cAdj I s t = true then 1 else 1000)))) (wc cy S I L R LP)) kF := by
  refine Con_of (by decide +kernel) (Nat.le_of_ble_eq_true rfl) ?_
  refine J_eq (lv' := [(0, .ref (ka S 1 0)), (1, .int (nI s)), (2, .int (nI t))]) rfl rfl rfl ?_
  have hst2 := hst.2
  refine J_iload_n 1 rfl dX1_directSteps_0 ?_
  refine J_iload_n 2 rfl dX1_directSteps_1 ?_
  refine J_icmp_ne 7 (by decide) dX1_directSteps_2 (fun c1 => ?_) (fun c1 => ?_)
  · have Nc1 : ¬ (s = t) := fun q => c1 ((nI_eqL (a := s) (b := t) (by omega) (by omega)).mpr q)
    refine J_aload_n 0 rfl dX1_directSteps_7 ?_
    refine J_iload_n 1 rfl dX1_directSteps_8 ?_
    refine J_iload_n 2 rfl dX1_directSteps_9 ?_
    refine cv_1_80 (cells' := 0) (slots' := 0) dX1_directSteps_10 (c_X1_areLinked hst hs ht) (n1 _) ⟨by decide, by decide⟩ rfl rfl (by decide) (by decide) (Nat.le_of_ble_eq_true rfl) (fun _ _ r2 => ?_) (fun _ _ h => h.elim)
    obtain ⟨rfl, rfl⟩ := r2
    refine J_eq (st' := [.int (kb (linkB I s t))]) rfl rfl rfl ?_
    refine J_if_eq 20 (by decide) dX1_directSteps_13 (fun c3 => ?_) (fun c3 => ?_)
    · skip
      refine J_sipush (v := 1000) (by decide) dX1_directSteps_20 ?_
      exact J_ireturn rfl (by first | rfl | assumption | simp [kb_nar]) dX1_directSteps_23 (⟨by (try simp only [kb_0, kb_n0] at *); first | (rw [if_pos (by omega)]; rfl) | (rw [if_neg (by omega)]; simp [cAdj, *]; done) | (rw [if_neg (by omega)]; simp [cAdj, *]; rfl), rfl⟩) (by omega) (by omega)
    · skip
      refine J_iconst (v := 1) (by decide) dX1_directSteps_16 ?_
      refine J_goto 23 (by decide) dX1_directSteps_17 ?_
      exact J_ireturn rfl (by first | rfl | assumption | simp [kb_nar]) dX1_directSteps_23 (⟨by (try simp only [kb_0, kb_n0] at *); first | (rw [if_pos (by omega)]; rfl) | (rw [if_neg (by omega)]; simp [cAdj, *]; done) | (rw [if_neg (by omega)]; simp [cAdj, *]; rfl), rfl⟩) (by omega) (by omega)
  · have Nc1 : s = t := (nI_eqL (a := s) (b := t) (by omega) (by omega)).mp c1
    refine J_iconst (v := 0) (by decide) dX1_directSteps_5 ?_
    exact J_ireturn rfl (by first | rfl | assumption | simp [kb_nar]) dX1_directSteps_6 (⟨by (try simp only [kb_0, kb_n0] at *); first | (rw [if_pos (by omega)]; rfl) | (rw [if_neg (by omega)]; simp [cAdj, *]; done) | (rw [if_neg (by omega)]; simp [cAdj, *]; rfl), rfl⟩) (by omega) (by omega)

set_option maxRecDepth 20000 in
set_option maxHeartbeats 1000000 in
theorem l3_X1_joinOver {cy : Nat → ClassId} {S : Nat → Nat → Nat} {I0 : kI} {L : kL} {R : kRf} {LP : List Nat} {ns k : Nat} (hst0 : stF I0 ns) (hk : k < ns) {i : Nat} (hi : i < ns) (kk : ∀ (I : kI) (Jm : Nat → Nat → Nat), f11 I0 I → mtx I ns Jm → fInv (cAdj I0) ns k Jm (fun a b => a < i + 1) → J yX1_joinOver.cls yX1_joinOver.name cX1_joinOver 4 none 2 0 0 cy (fun r w' => ∃ (I' : kI) (J' : Nat → Nat → Nat), r = none ∧ w' = wc cy S I' L R LP ∧ f11 I0 I' ∧ mtx I' ns J' ∧ fInv (cAdj I0) ns (k + 1) J' (fun _ _ => False)) kF 62 [(0, .ref (ka S 1 0)), (1, .int (nI k)), (2, .int (nI i)), (3, .int (nI ns))] [] (wc cy S I L R LP) 0 0) :
    ∀ (m j : Nat) (I : kI) (Jm : Nat → Nat → Nat), j + m = ns → f11 I0 I → mtx I ns Jm → fInv (cAdj I0) ns k Jm (fun a b => a < i ∨ (a = i ∧ b < j)) → J yX1_joinOver.cls yX1_joinOver.name cX1_joinOver 4 none 2 0 0 cy (fun r w' => ∃ (I' : kI) (J' : Nat → Nat → Nat), r = none ∧ w' = wc cy S I' L R LP ∧ f11 I0 I' ∧ mtx I' ns J' ∧ fInv (cAdj I0) ns (k + 1) J' (fun _ _ => False)) kF 12 [(0, .ref (ka S 1 0)), (1, .int (nI k)), (2, .int (nI i)), (3, .int (nI j))] [] (wc cy S I L R LP) 0 0 := by
  have hns := hst0.2
  intro m
  induction m with
  | zero =>
    intro j I Jm hj hfr hm hf
    have hst := hfr.st hst0
    have hj : j = ns := by omega
    rw [hj]
    refine J_iload_n 3 rfl dX1_joinOver_12 ?_
    refine J_aload_n 0 rfl dX1_joinOver_13 ?_
    refine gf_1_33 (n1 _) dX1_joinOver_14 ?_
    refine J_topeq (nI ns) hst.1 ?_
    refine J_icmp_ge 62 (by decide) dX1_joinOver_17 (fun c1 => ?_) (fun c1 => ?_)
    rotate_left
    · exfalso
      have Nc1 : ¬ (ns ≤ ns) := fun q => c1 ((nI_leI (a := ns) (b := ns) (by omega) (by omega)).mpr q)
      omega
    have Nc1 : ns ≤ ns := (nI_leI (a := ns) (b := ns) (by omega) (by omega)).mp c1
    exact kk I Jm hfr hm (fInv_iff hf (fun a b ha hb q => by omega))
  | succ m ih =>
    intro j I Jm hj hfr hm hf
    have hst := hfr.st hst0
    have hjn : j < ns := by omega
    have b1 := fInv_le hf hi hjn
    have b2 := fInv_le hf hi hk
    have b3 := fInv_le hf hk hjn
    refine J_iload_n 3 rfl dX1_joinOver_12 ?_
    refine J_aload_n 0 rfl dX1_joinOver_13 ?_
    refine gf_1_33 (n1 _) dX1_joinOver_14 ?_
    refine J_topeq (nI ns) hst.1 ?_
    refine J_icmp_ge 62 (by decide) dX1_joinOver_17 (fun c1 => ?_) (fun c1 => ?_)
    · exfalso
      have Nc1 : ns ≤ j := (nI_leI (a := ns) (b := j) (by omega) (by omega)).mp c1
      omega
    have Nc1 : ¬ (ns ≤ j) := fun q => c1 ((nI_leI (a := ns) (b := j) (by omega) (by omega)).mpr q)
    refine J_aload_n 0 rfl dX1_joinOver_20 ?_
    refine gf_1_29 (n1 _) dX1_joinOver_21 ?_
    refine J_iload_n 2 rfl dX1_joinOver_24 ?_
    refine J_aald2 i 8 (n10 _) rfl rfl (vp_in_nI (by omega) (by decide)) (nI_toNat (by omega)) dX1_joinOver_25 ?_
    refine J_iload_n 3 rfl dX1_joinOver_26 ?_
    refine J_aload_n 0 rfl dX1_joinOver_27 ?_
    refine gf_1_29 (n1 _) dX1_joinOver_28 ?_
    refine J_iload_n 2 rfl dX1_joinOver_31 ?_
    refine J_aald2 i 8 (n10 _) rfl rfl (vp_in_nI (by omega) (by decide)) (nI_toNat (by omega)) dX1_joinOver_32 ?_
    refine J_iload_n 3 rfl dX1_joinOver_33 ?_
    refine J_iald j 0 (n11 _ (by omega)) rfl rfl (vp_in_nI (by omega) (by decide)) (nI_toNat (by omega)) dX1_joinOver_34 ?_
    refine J_topeq (nI (Jm i j)) (hm i j hi hjn) ?_
    refine J_aload_n 0 rfl dX1_joinOver_35 ?_
    refine gf_1_29 (n1 _) dX1_joinOver_36 ?_
    refine J_iload_n 2 rfl dX1_joinOver_39 ?_
    refine J_aald2 i 8 (n10 _) rfl rfl (vp_in_nI (by omega) (by decide)) (nI_toNat (by omega)) dX1_joinOver_40 ?_
    refine J_iload_n 1 rfl dX1_joinOver_41 ?_
    refine J_iald k 0 (n11 _ (by omega)) rfl rfl (vp_in_nI (by omega) (by decide)) (nI_toNat (by omega)) dX1_joinOver_42 ?_
    refine J_topeq (nI (Jm i k)) (hm i k hi hk) ?_
    refine J_aload_n 0 rfl dX1_joinOver_43 ?_
    refine gf_1_29 (n1 _) dX1_joinOver_44 ?_
    refine J_iload_n 1 rfl dX1_joinOver_47 ?_
    refine J_aald2 k 8 (n10 _) rfl rfl (vp_in_nI (by omega) (by decide)) (nI_toNat (by omega)) dX1_joinOver_48 ?_
    refine J_iload_n 3 rfl dX1_joinOver_49 ?_
    refine J_iald j 0 (n11 _ (by omega)) rfl rfl (vp_in_nI (by omega) (by decide)) (nI_toNat (by omega)) dX1_joinOver_50 ?_
    refine J_topeq (nI (Jm k j)) (hm k j hk hjn) ?_
    refine J_iadd dX1_joinOver_51 ?_
    refine J_topeq (nI (Jm i k + Jm k j)) (by exact nI_add (Jm i k) (Jm k j)) ?_
    refine J_min lm_1_84 (by decide) (Nat.le_of_ble_eq_true rfl) (by decide) (by decide) dX1_joinOver_52 ?_
    refine J_topeq (nI (min (Jm i j) (Jm i k + Jm k j))) (kmin_n (a := Jm i j) (b := Jm i k + Jm k j) (by omega) (by omega)) ?_
    refine J_iast (I' := ku I 11 i j (nI (min (Jm i j) (Jm i k + Jm k j)))) (L' := L) (R' := R) j 0 (n11 _ (by omega)) rfl rfl (vp_in_nI (by omega) (by decide)) (nI_toNat (by omega)) (by rw [ku_own]; rfl) (fun k' i' h => ⟨ku_row _ _ h, rfl, rfl⟩) dX1_joinOver_55 ?_
    refine J_iinc (v := (nI (j + 1))) (lv' := [(0, .ref (ka S 1 0)), (1, .int (nI k)), (2, .int (nI i)), (3, .int (nI (j + 1)))]) 3 rfl (by exact nI_add j 1) (by decide) rfl dX1_joinOver_56 ?_
    refine J_goto 12 (by decide) dX1_joinOver_59 ?_
    refine J_eq (lv' := [(0, .ref (ka S 1 0)), (1, .int (nI k)), (2, .int (nI i)), (3, .int (nI (j + 1)))]) rfl rfl rfl ?_
    refine ih (j + 1) _ (fun x y => if x = i ∧ y = j then min (Jm i j) (Jm i k + Jm k j) else Jm x y) (by omega) (fun q z h1 => by rw [ku_row _ _ (fun z => h1 (congrArg Prod.fst z))]; exact hfr q z h1) (fun a b ha hb => ?_) (fInv_iff (fInv_step hf hk hi hjn) (fun a b ha hb q => by omega))
    by_cases z : a = i ∧ b = j
    · obtain ⟨rfl, rfl⟩ := z
      rw [ku_eq]; simp
    · simp only [z, if_false]
      rw [← hm a b ha hb]
      by_cases z1 : a = i
      · rw [z1, ku_f _ _ _ _ (fun z2 => z ⟨z1, z2⟩)]
      · rw [ku_i _ _ _ _ z1]

set_option maxRecDepth 20000 in
set_option maxHeartbeats 1000000 in
theorem l2_X1_joinOver {cy : Nat → ClassId} {S : Nat → Nat → Nat} {I0 : kI} {L : kL} {R : kRf} {LP : List Nat} {ns k : Nat} (hst0 : stF I0 ns) (hk : k < ns) : ∀ (m i : Nat) (I : kI) (Jm : Nat → Nat → Nat), i + m = ns → f11 I0 I → mtx I ns Jm → fInv (cAdj I0) ns k Jm (fun a b => a < i) → J yX1_joinOver.cls yX1_joinOver.name cX1_joinOver 4 none 2 0 0 cy (fun r w' => ∃ (I' : kI) (J' : Nat → Nat → Nat), r = none ∧ w' = wc cy S I' L R LP ∧ f11 I0 I' ∧ mtx I' ns J' ∧ fInv (cAdj I0) ns (k + 1) J' (fun _ _ => False)) kF 2 [(0, .ref (ka S 1 0)), (1, .int (nI k)), (2, .int (nI i))] [] (wc cy S I L R LP) 0 0 := by
  have hns := hst0.2
  intro m
  induction m with
  | zero =>
    intro i I Jm hi hfr hm hf
    have hst := hfr.st hst0
    have hi : i = ns := by omega
    rw [hi] at hf
    rw [hi]
    refine J_iload_n 2 rfl dX1_joinOver_2 ?_
    refine J_aload_n 0 rfl dX1_joinOver_3 ?_
    refine gf_1_33 (n1 _) dX1_joinOver_4 ?_
    refine J_topeq (nI ns) hst.1 ?_
    refine J_icmp_ge 68 (by decide) dX1_joinOver_7 (fun c1 => ?_) (fun c1 => ?_)
    rotate_left
    · exfalso
      have Nc1 : ¬ (ns ≤ ns) := fun q => c1 ((nI_leI (a := ns) (b := ns) (by omega) (by omega)).mpr q)
      omega
    have Nc1 : ns ≤ ns := (nI_leI (a := ns) (b := ns) (by omega) (by omega)).mp c1
    exact J_return rfl dX1_joinOver_68 (⟨I, Jm, rfl, rfl, hfr, hm, fInv_next hf (fun a b ha _ => ha)⟩) (by omega) (by omega)
  | succ m ih =>
    intro i I Jm hi hfr hm hf
    have hst := hfr.st hst0
    refine J_iload_n 2 rfl dX1_joinOver_2 ?_
    refine J_aload_n 0 rfl dX1_joinOver_3 ?_
    refine gf_1_33 (n1 _) dX1_joinOver_4 ?_
    refine J_topeq (nI ns) hst.1 ?_
    refine J_icmp_ge 68 (by decide) dX1_joinOver_7 (fun c1 => ?_) (fun c1 => ?_)
    · exfalso
      have Nc1 : ns ≤ i := (nI_leI (a := ns) (b := i) (by omega) (by omega)).mp c1
      omega
    have Nc1 : ¬ (ns ≤ i) := fun q => c1 ((nI_leI (a := ns) (b := i) (by omega) (by omega)).mpr q)
    refine J_iconst (v := 0) (by decide) dX1_joinOver_10 ?_
    refine J_istore_n (lv' := [(0, .ref (ka S 1 0)), (1, .int (nI k)), (2, .int (nI i)), (3, .int 0)]) (by decide) rfl dX1_joinOver_11 ?_
    refine J_eq (lv' := [(0, .ref (ka S 1 0)), (1, .int (nI k)), (2, .int (nI i)), (3, .int (nI 0))]) rfl rfl rfl ?_
    refine l3_X1_joinOver hst0 hk (i := i) (by omega) (fun I2 J2 hf2 hm2 hi2 => ?_) ns 0 I Jm (by omega) hfr hm (fInv_iff hf (fun a b ha hb q => by omega))
    refine J_iinc (v := (nI (i + 1))) (lv' := [(0, .ref (ka S 1 0)), (1, .int (nI k)), (2, .int (nI (i + 1))), (3, .int (nI ns))]) 2 rfl (by exact nI_add i 1) (by decide) rfl dX1_joinOver_62 ?_
    refine J_goto 2 (by decide) dX1_joinOver_65 ?_
    refine J_sub (lv' := [(0, .ref (ka S 1 0)), (1, .int (nI k)), (2, .int (nI (i + 1)))]) [0, 1, 2] rfl ?_
    exact ih (i + 1) I2 J2 (by omega) hf2 hm2 hi2

set_option maxRecDepth 20000 in
set_option maxHeartbeats 1000000 in
theorem c_X1_joinOver {cy : Nat → ClassId} {S : Nat → Nat → Nat} {I0 : kI} {L : kL} {R : kRf} {LP : List Nat} {ns k : Nat} (hst0 : stF I0 ns) (hk : k < ns) {I : kI} {Jm : Nat → Nat → Nat} (hfr : f11 I0 I) (hm : mtx I ns Jm) (hf : fInv (cAdj I0) ns k Jm (fun _ _ => False)) : Con yX1_joinOver cX1_joinOver 4 none 2 0 0 cy [.ref (ka S 1 0), .int (nI k)] (wc cy S I L R LP) (fun r w' => ∃ (I' : kI) (J' : Nat → Nat → Nat), r = none ∧ w' = wc cy S I' L R LP ∧ f11 I0 I' ∧ mtx I' ns J' ∧ fInv (cAdj I0) ns (k + 1) J' (fun _ _ => False)) kF := by
  have hns := hst0.2
  refine Con_of (by decide +kernel) (Nat.le_of_ble_eq_true rfl) ?_
  refine J_eq (lv' := [(0, .ref (ka S 1 0)), (1, .int (nI k))]) rfl rfl rfl ?_
  refine J_iconst (v := 0) (by decide) dX1_joinOver_0 ?_
  refine J_istore_n (lv' := [(0, .ref (ka S 1 0)), (1, .int (nI k)), (2, .int 0)]) (by decide) rfl dX1_joinOver_1 ?_
  refine J_eq (lv' := [(0, .ref (ka S 1 0)), (1, .int (nI k)), (2, .int (nI 0))]) rfl rfl rfl ?_
  exact l2_X1_joinOver hst0 hk ns 0 I Jm (by omega) hfr hm (fInv_iff hf (fun a b ha hb q => by omega))

def m0F (I : kI) (a b : Nat) : Nat := if a = b then 0 else if cAdj I a b = true then 1 else 1000
theorem m0F_le {I : kI} {a b : Nat} : m0F I a b ≤ 1000 := by unfold m0F; split; omega; split <;> omega

set_option maxRecDepth 20000 in
set_option maxHeartbeats 1000000 in
theorem l3_X1_joinWays {cy : Nat → ClassId} {S : Nat → Nat → Nat} {I0 : kI} {L : kL} {R : kRf} {LP : List Nat} {ns : Nat} (hst0 : stF I0 ns) {i : Nat} (hi : i < ns) (kk : ∀ I : kI, f11 I0 I → (∀ a b, a < i + 1 → b < ns → I 11 a b = nI (m0F I0 a b)) → J yX1_joinWays.cls yX1_joinWays.name cX1_joinWays 3 none 9 0 0 cy (fun r w' => ∃ I' : kI, r = none ∧ w' = wc cy S I' L R LP ∧ f11 I0 I' ∧ ∀ a b, a < ns → b < ns → I' 11 a b = nI (dS (cAdj I0) ns b a)) kF 40 [(0, .ref (ka S 1 0)), (1, .int (nI i)), (2, .int (nI ns))] [] (wc cy S I L R LP) 0 0) :
    ∀ (m j : Nat) (I : kI), j + m = ns → f11 I0 I → (∀ a b, a < i → b < ns → I 11 a b = nI (m0F I0 a b)) → (∀ b, b < j → I 11 i b = nI (m0F I0 i b)) → J yX1_joinWays.cls yX1_joinWays.name cX1_joinWays 3 none 9 0 0 cy (fun r w' => ∃ I' : kI, r = none ∧ w' = wc cy S I' L R LP ∧ f11 I0 I' ∧ ∀ a b, a < ns → b < ns → I' 11 a b = nI (dS (cAdj I0) ns b a)) kF 12 [(0, .ref (ka S 1 0)), (1, .int (nI i)), (2, .int (nI j))] [] (wc cy S I L R LP) 0 0 := by
  have hns := hst0.2
  intro m
  induction m with
  | zero =>
    intro j I hj hfr hm hr
    have hst := hfr.st hst0
    have hj : j = ns := by omega
    rw [hj] at hr
    rw [hj]
    refine J_iload_n 2 rfl dX1_joinWays_12 ?_
    refine J_aload_n 0 rfl dX1_joinWays_13 ?_
    refine gf_1_33 (n1 _) dX1_joinWays_14 ?_
    refine J_topeq (nI ns) hst.1 ?_
    refine J_icmp_ge 40 (by decide) dX1_joinWays_17 (fun c1 => ?_) (fun c1 => ?_)
    rotate_left
    · exfalso
      have Nc1 : ¬ (ns ≤ ns) := fun q => c1 ((nI_leI (a := ns) (b := ns) (by omega) (by omega)).mpr q)
      omega
    have Nc1 : ns ≤ ns := (nI_leI (a := ns) (b := ns) (by omega) (by omega)).mp c1
    exact kk I hfr (fun a b ha hb => by
      by_cases z : a = i
      · rw [z]; exact hr b hb
      · exact hm a b (by omega) hb)
  | succ m ih =>
    intro j I hj hfr hm hr
    have hst := hfr.st hst0
    have hjn : j < ns := by omega
    refine J_iload_n 2 rfl dX1_joinWays_12 ?_
    refine J_aload_n 0 rfl dX1_joinWays_13 ?_
    refine gf_1_33 (n1 _) dX1_joinWays_14 ?_
    refine J_topeq (nI ns) hst.1 ?_
    refine J_icmp_ge 40 (by decide) dX1_joinWays_17 (fun c1 => ?_) (fun c1 => ?_)
    · exfalso
      have Nc1 : ns ≤ j := (nI_leI (a := ns) (b := j) (by omega) (by omega)).mp c1
      omega
    have Nc1 : ¬ (ns ≤ j) := fun q => c1 ((nI_leI (a := ns) (b := j) (by omega) (by omega)).mpr q)
    refine J_aload_n 0 rfl dX1_joinWays_20 ?_
    refine gf_1_29 (n1 _) dX1_joinWays_21 ?_
    refine J_iload_n 1 rfl dX1_joinWays_24 ?_
    refine J_aald2 i 8 (n10 _) rfl rfl (vp_in_nI (by omega) (by decide)) (nI_toNat (by omega)) dX1_joinWays_25 ?_
    refine J_iload_n 2 rfl dX1_joinWays_26 ?_
    refine J_aload_n 0 rfl dX1_joinWays_27 ?_
    refine J_iload_n 1 rfl dX1_joinWays_28 ?_
    refine J_iload_n 2 rfl dX1_joinWays_29 ?_
    refine cv_1_74 (cells' := 0) (slots' := 0) dX1_joinWays_30 (c_X1_directSteps hst hi hjn) (n1 _) ⟨by decide, by decide⟩ rfl rfl (by decide) (by decide) (Nat.le_of_ble_eq_true rfl) (fun _ _ r2 => ?_) (fun _ _ h => h.elim)
    obtain ⟨rfl, rfl⟩ := r2
    refine J_eq (st' := [.int (nI (if i = j then 0 else if cAdj I i j = true then 1 else 1000)), .int (nI j), .ref (ka S 11 i)]) rfl rfl rfl ?_
    refine J_topeq (nI (m0F I0 i j)) (by rw [show cAdj I i j = cAdj I0 i j from cAdj_congr (fun z => hfr 17 z (by decide)) i j]; rfl) ?_
    refine J_iast (I' := ku I 11 i j (nI (m0F I0 i j))) (L' := L) (R' := R) j 0 (n11 _ (by omega)) rfl rfl (vp_in_nI (by omega) (by decide)) (nI_toNat (by omega)) (by rw [ku_own]; rfl) (fun k' i' h => ⟨ku_row _ _ h, rfl, rfl⟩) dX1_joinWays_33 ?_
    refine J_iinc (v := (nI (j + 1))) (lv' := [(0, .ref (ka S 1 0)), (1, .int (nI i)), (2, .int (nI (j + 1)))]) 2 rfl (by exact nI_add j 1) (by decide) rfl dX1_joinWays_34 ?_
    refine J_goto 12 (by decide) dX1_joinWays_37 ?_
    refine J_eq (lv' := [(0, .ref (ka S 1 0)), (1, .int (nI i)), (2, .int (nI (j + 1)))]) rfl rfl rfl ?_
    refine ih (j + 1) _ (by omega) (fun q z h1 => by rw [ku_row _ _ (fun z => h1 (congrArg Prod.fst z))]; exact hfr q z h1) (fun a b ha hb => ?_) (fun b hb => ?_)
    · rw [ku_i _ _ _ _ (by omega)]; exact hm a b ha hb
    · by_cases z : b = j
      · rw [z, ku_eq]
      · rw [ku_f _ _ _ _ z]; exact hr b (by omega)

set_option maxRecDepth 20000 in
set_option maxHeartbeats 1000000 in
theorem l2_X1_joinWays {cy : Nat → ClassId} {S : Nat → Nat → Nat} {I0 : kI} {L : kL} {R : kRf} {LP : List Nat} {ns : Nat} (hst0 : stF I0 ns) (kk : ∀ I : kI, f11 I0 I → mtx I ns (m0F I0) → J yX1_joinWays.cls yX1_joinWays.name cX1_joinWays 3 none 9 0 0 cy (fun r w' => ∃ I' : kI, r = none ∧ w' = wc cy S I' L R LP ∧ f11 I0 I' ∧ ∀ a b, a < ns → b < ns → I' 11 a b = nI (dS (cAdj I0) ns b a)) kF 46 [(0, .ref (ka S 1 0))] [] (wc cy S I L R LP) 0 0) : ∀ (m i : Nat) (I : kI), i + m = ns → f11 I0 I → (∀ a b, a < i → b < ns → I 11 a b = nI (m0F I0 a b)) → J yX1_joinWays.cls yX1_joinWays.name cX1_joinWays 3 none 9 0 0 cy (fun r w' => ∃ I' : kI, r = none ∧ w' = wc cy S I' L R LP ∧ f11 I0 I' ∧ ∀ a b, a < ns → b < ns → I' 11 a b = nI (dS (cAdj I0) ns b a)) kF 2 [(0, .ref (ka S 1 0)), (1, .int (nI i))] [] (wc cy S I L R LP) 0 0 := by
  have hns := hst0.2
  intro m
  induction m with
  | zero =>
    intro i I hi hfr hm
    have hst := hfr.st hst0
    have hi : i = ns := by omega
    rw [hi] at hm
    rw [hi]
    refine J_iload_n 1 rfl dX1_joinWays_2 ?_
    refine J_aload_n 0 rfl dX1_joinWays_3 ?_
    refine gf_1_33 (n1 _) dX1_joinWays_4 ?_
    refine J_topeq (nI ns) hst.1 ?_
    refine J_icmp_ge 46 (by decide) dX1_joinWays_7 (fun c1 => ?_) (fun c1 => ?_)
    rotate_left
    · exfalso
      have Nc1 : ¬ (ns ≤ ns) := fun q => c1 ((nI_leI (a := ns) (b := ns) (by omega) (by omega)).mpr q)
      omega
    have Nc1 : ns ≤ ns := (nI_leI (a := ns) (b := ns) (by omega) (by omega)).mp c1
    refine J_sub (lv' := [(0, .ref (ka S 1 0))]) [0] rfl ?_
    exact kk I hfr (fun a b ha hb => hm a b ha hb)
  | succ m ih =>
    intro i I hi hfr hm
    have hst := hfr.st hst0
    refine J_iload_n 1 rfl dX1_joinWays_2 ?_
    refine J_aload_n 0 rfl dX1_joinWays_3 ?_
    refine gf_1_33 (n1 _) dX1_joinWays_4 ?_
    refine J_topeq (nI ns) hst.1 ?_
    refine J_icmp_ge 46 (by decide) dX1_joinWays_7 (fun c1 => ?_) (fun c1 => ?_)
    · exfalso
      have Nc1 : ns ≤ i := (nI_leI (a := ns) (b := i) (by omega) (by omega)).mp c1
      omega
    have Nc1 : ¬ (ns ≤ i) := fun q => c1 ((nI_leI (a := ns) (b := i) (by omega) (by omega)).mpr q)
    refine J_iconst (v := 0) (by decide) dX1_joinWays_10 ?_
    refine J_istore_n (lv' := [(0, .ref (ka S 1 0)), (1, .int (nI i)), (2, .int 0)]) (by decide) rfl dX1_joinWays_11 ?_
    refine J_eq (lv' := [(0, .ref (ka S 1 0)), (1, .int (nI i)), (2, .int (nI 0))]) rfl rfl rfl ?_
    refine l3_X1_joinWays hst0 (i := i) (by omega) (fun I2 hf2 hm2 => ?_) ns 0 I (by omega) hfr hm (fun b hb => absurd hb (by omega))
    refine J_iinc (v := (nI (i + 1))) (lv' := [(0, .ref (ka S 1 0)), (1, .int (nI (i + 1))), (2, .int (nI ns))]) 1 rfl (by exact nI_add i 1) (by decide) rfl dX1_joinWays_40 ?_
    refine J_goto 2 (by decide) dX1_joinWays_43 ?_
    refine J_sub (lv' := [(0, .ref (ka S 1 0)), (1, .int (nI (i + 1)))]) [0, 1] rfl ?_
    exact ih (i + 1) I2 (by omega) hf2 hm2

set_option maxRecDepth 20000 in
set_option maxHeartbeats 1000000 in
theorem l1_X1_joinWays {cy : Nat → ClassId} {S : Nat → Nat → Nat} {I0 : kI} {L : kL} {R : kRf} {LP : List Nat} {ns : Nat} (hst0 : stF I0 ns) : ∀ (m k : Nat) (I : kI) (Jm : Nat → Nat → Nat), k + m = ns → f11 I0 I → mtx I ns Jm → fInv (cAdj I0) ns k Jm (fun _ _ => False) → J yX1_joinWays.cls yX1_joinWays.name cX1_joinWays 3 none 9 0 0 cy (fun r w' => ∃ I' : kI, r = none ∧ w' = wc cy S I' L R LP ∧ f11 I0 I' ∧ ∀ a b, a < ns → b < ns → I' 11 a b = nI (dS (cAdj I0) ns b a)) kF 48 [(0, .ref (ka S 1 0)), (1, .int (nI k))] [] (wc cy S I L R LP) 0 0 := by
  have hns := hst0.2
  intro m
  induction m with
  | zero =>
    intro k I Jm hk hfr hm hf
    have hst := hfr.st hst0
    have hk : k = ns := by omega
    rw [hk] at hf
    rw [hk]
    refine J_iload_n 1 rfl dX1_joinWays_48 ?_
    refine J_aload_n 0 rfl dX1_joinWays_49 ?_
    refine gf_1_33 (n1 _) dX1_joinWays_50 ?_
    refine J_topeq (nI ns) hst.1 ?_
    refine J_icmp_ge 67 (by decide) dX1_joinWays_53 (fun c1 => ?_) (fun c1 => ?_)
    rotate_left
    · exfalso
      have Nc1 : ¬ (ns ≤ ns) := fun q => c1 ((nI_leI (a := ns) (b := ns) (by omega) (by omega)).mpr q)
      omega
    have Nc1 : ns ≤ ns := (nI_leI (a := ns) (b := ns) (by omega) (by omega)).mp c1
    exact J_return rfl dX1_joinWays_67 (⟨I, rfl, rfl, hfr, fun a b ha hb => by rw [hm a b ha hb, fInv_end hns hf ha hb]⟩) (by omega) (by omega)
  | succ m ih =>
    intro k I Jm hk hfr hm hf
    have hst := hfr.st hst0
    refine J_iload_n 1 rfl dX1_joinWays_48 ?_
    refine J_aload_n 0 rfl dX1_joinWays_49 ?_
    refine gf_1_33 (n1 _) dX1_joinWays_50 ?_
    refine J_topeq (nI ns) hst.1 ?_
    refine J_icmp_ge 67 (by decide) dX1_joinWays_53 (fun c1 => ?_) (fun c1 => ?_)
    · exfalso
      have Nc1 : ns ≤ k := (nI_leI (a := ns) (b := k) (by omega) (by omega)).mp c1
      omega
    have Nc1 : ¬ (ns ≤ k) := fun q => c1 ((nI_leI (a := ns) (b := k) (by omega) (by omega)).mpr q)
    refine J_aload_n 0 rfl dX1_joinWays_56 ?_
    refine J_iload_n 1 rfl dX1_joinWays_57 ?_
    refine cv_1_77 (cells' := 0) (slots' := 0) dX1_joinWays_58 (c_X1_joinOver hst0 (k := k) (by omega) hfr hm hf) (n1 _) ⟨by decide, by decide⟩ rfl rfl (by decide) (by decide) (Nat.le_of_ble_eq_true rfl) (fun _ _ r2 => ?_) (fun _ _ h => h.elim)
    obtain ⟨I2, J2, rfl, rfl, hf2, hm2, hi2⟩ := r2
    refine J_eq (st' := []) rfl rfl rfl ?_
    refine J_iinc (v := (nI (k + 1))) (lv' := [(0, .ref (ka S 1 0)), (1, .int (nI (k + 1)))]) 1 rfl (by exact nI_add k 1) (by decide) rfl dX1_joinWays_61 ?_
    refine J_goto 48 (by decide) dX1_joinWays_64 ?_
    refine J_eq (lv' := [(0, .ref (ka S 1 0)), (1, .int (nI (k + 1)))]) rfl rfl rfl ?_
    exact ih (k + 1) I2 J2 (by omega) hf2 hm2 hi2

set_option maxRecDepth 20000 in
set_option maxHeartbeats 1000000 in
theorem c_X1_joinWays {cy : Nat → ClassId} {S : Nat → Nat → Nat} {I0 : kI} {L : kL} {R : kRf} {LP : List Nat} {ns : Nat} (hst0 : stF I0 ns) : Con yX1_joinWays cX1_joinWays 3 none 9 0 0 cy [.ref (ka S 1 0)] (wc cy S I0 L R LP) (fun r w' => ∃ I' : kI, r = none ∧ w' = wc cy S I' L R LP ∧ f11 I0 I' ∧ ∀ a b, a < ns → b < ns → I' 11 a b = nI (dS (cAdj I0) ns b a)) kF := by
  have hns := hst0.2
  refine Con_of (by decide +kernel) (Nat.le_of_ble_eq_true rfl) ?_
  refine J_eq (lv' := [(0, .ref (ka S 1 0))]) rfl rfl rfl ?_
  refine J_iconst (v := 0) (by decide) dX1_joinWays_0 ?_
  refine J_istore_n (lv' := [(0, .ref (ka S 1 0)), (1, .int 0)]) (by decide) rfl dX1_joinWays_1 ?_
  refine J_eq (lv' := [(0, .ref (ka S 1 0)), (1, .int (nI 0))]) rfl rfl rfl ?_
  refine l2_X1_joinWays hst0 (fun I hfr hm => ?_) ns 0 I0 (by omega) (fun _ _ _ => rfl) (fun a b ha _ => absurd ha (by omega))
  refine J_iconst (v := 0) (by decide) dX1_joinWays_46 ?_
  refine J_istore_n (lv' := [(0, .ref (ka S 1 0)), (1, .int 0)]) (by decide) rfl dX1_joinWays_47 ?_
  refine J_eq (lv' := [(0, .ref (ka S 1 0)), (1, .int (nI 0))]) rfl rfl rfl ?_
  exact l1_X1_joinWays hst0 ns 0 I (m0F I0) (by omega) hfr hm (fInv_init (fun a b _ _ => rfl))

set_option maxRecDepth 20000 in
theorem c_X1_joinedSteps {cy : Nat → ClassId} {S : Nat → Nat → Nat} {I : kI} {L : kL} {R : kRf} {LP : List Nat} {s t : Nat} (hs : s < 10) (ht : t < 10) : Con yX1_joinedSteps cX1_joinedSteps 4 (some .int) 0 0 0 cy [.ref (ka S 1 0), .int (nI s), .int (nI t)] (wc cy S I L R LP) (kRet (some (.int (I 11 s t))) (wc cy S I L R LP)) kF := by
  refine Con_of (by decide +kernel) (Nat.le_of_ble_eq_true rfl) ?_
  refine J_eq (lv' := [(0, .ref (ka S 1 0)), (1, .int (nI s)), (2, .int (nI t))]) rfl rfl rfl ?_
  refine J_iload_n 1 rfl dX1_joinedSteps_0 ?_
  refine J_if_lt 30 (by decide) dX1_joinedSteps_1 (fun c1 => ?_) (fun c1 => ?_)
  · exfalso
    have Nc1 : s < 0 := (nI_ltI (a := s) (b := 0) (by omega) (by omega)).mp c1
    omega
  have Nc1 : ¬ (s < 0) := fun q => c1 ((nI_ltI (a := s) (b := 0) (by omega) (by omega)).mpr q)
  refine J_iload_n 1 rfl dX1_joinedSteps_4 ?_
  refine J_aload_n 0 rfl dX1_joinedSteps_5 ?_
  refine gf_1_29 (n1 _) dX1_joinedSteps_6 ?_
  refine J_alen (v := 10) 8 (n10 _) rfl rfl rfl dX1_joinedSteps_9 ?_
  refine J_icmp_ge 30 (by decide) dX1_joinedSteps_10 (fun c2 => ?_) (fun c2 => ?_)
  · exfalso
    have Nc2 : 10 ≤ s := (nI_leI (a := 10) (b := s) (by omega) (by omega)).mp c2
    omega
  have Nc2 : ¬ (10 ≤ s) := fun q => c2 ((nI_leI (a := 10) (b := s) (by omega) (by omega)).mpr q)
  refine J_iload_n 2 rfl dX1_joinedSteps_13 ?_
  refine J_if_lt 30 (by decide) dX1_joinedSteps_14 (fun c3 => ?_) (fun c3 => ?_)
  · exfalso
    have Nc3 : t < 0 := (nI_ltI (a := t) (b := 0) (by omega) (by omega)).mp c3
    omega
  have Nc3 : ¬ (t < 0) := fun q => c3 ((nI_ltI (a := t) (b := 0) (by omega) (by omega)).mpr q)
  refine J_iload_n 2 rfl dX1_joinedSteps_17 ?_
  refine J_aload_n 0 rfl dX1_joinedSteps_18 ?_
  refine gf_1_29 (n1 _) dX1_joinedSteps_19 ?_
  refine J_alen (v := 10) 8 (n10 _) rfl rfl rfl dX1_joinedSteps_22 ?_
  refine J_icmp_ge 30 (by decide) dX1_joinedSteps_23 (fun c4 => ?_) (fun c4 => ?_)
  · exfalso
    have Nc4 : 10 ≤ t := (nI_leI (a := 10) (b := t) (by omega) (by omega)).mp c4
    omega
  have Nc4 : ¬ (10 ≤ t) := fun q => c4 ((nI_leI (a := 10) (b := t) (by omega) (by omega)).mpr q)
  refine J_iconst (v := 1) (by decide) dX1_joinedSteps_26 ?_
  refine J_goto 31 (by decide) dX1_joinedSteps_27 ?_
  refine J_istore_n (lv' := [(0, .ref (ka S 1 0)), (1, .int (nI s)), (2, .int (nI t)), (3, .int 1)]) (by decide) rfl dX1_joinedSteps_31 ?_
  refine J_iload_n 3 rfl dX1_joinedSteps_32 ?_
  refine J_if_eq 47 (by decide) dX1_joinedSteps_33 (fun c5 => ?_) (fun c5 => ?_)
  · exact absurd c5 (by decide)
  refine J_aload_n 0 rfl dX1_joinedSteps_36 ?_
  refine gf_1_29 (n1 _) dX1_joinedSteps_37 ?_
  refine J_iload_n 1 rfl dX1_joinedSteps_40 ?_
  refine J_aald2 s 8 (n10 _) rfl rfl (vp_in_nI (by omega) (by decide)) (nI_toNat (by omega)) dX1_joinedSteps_41 ?_
  refine J_iload_n 2 rfl dX1_joinedSteps_42 ?_
  refine J_iald t 0 (n11 _ (by omega)) rfl rfl (vp_in_nI (by omega) (by decide)) (nI_toNat (by omega)) dX1_joinedSteps_43 ?_
  refine J_goto 50 (by decide) dX1_joinedSteps_44 ?_
  exact J_ireturn rfl (by first | rfl | assumption | simp [kb_nar]) dX1_joinedSteps_50 (⟨rfl, rfl⟩) (by omega) (by omega)

def f7b (I0 I : kI) : Prop := ∀ k i, k ≠ 7 → k ≠ 8 → k ≠ 11 → I k i = I0 k i
theorem f7b.st {I0 I : kI} {ns : Nat} (h : f7b I0 I) (hs : stF I0 ns) : stF I ns := ⟨by rw [h 1 0 (by decide) (by decide) (by decide)]; exact hs.1, hs.2⟩
theorem f7b.ad {I0 I : kI} (h : f7b I0 I) : cAdj I = cAdj I0 := funext fun a => funext fun b => cAdj_congr (fun i => h 17 i (by decide) (by decide) (by decide)) a b

set_option maxRecDepth 20000 in
set_option maxHeartbeats 1000000 in
theorem l2_X1_isSameByJoining {cy : Nat → ClassId} {S : Nat → Nat → Nat} {I0 : kI} {L : kL} {R : kRf} {LP : List Nat} {ns : Nat} (hst0 : stF I0 ns) {i : Nat} (hi : i < ns) {I : kI} (hfr : f7b I0 I) (hm : ∀ a b, a < ns → b < ns → I 11 a b = nI (dS (cAdj I0) ns b a)) (hv : ∀ s, s < 10 → I 7 0 s = nI (dS (cAdj I0) ns i s)) (kk : J yX1_isSameByJoining.cls yX1_isSameByJoining.name cX1_isSameByJoining 3 (some .boolean) 10 0 0 cy (fun r w' => ∃ I' : kI, r = some (.int (kb true)) ∧ w' = wc cy S I' L R LP ∧ f7b I0 I') kF 54 [(0, .ref (ka S 1 0)), (1, .int (nI i))] [] (wc cy S I L R LP) 0 0) :
    ∀ (m j : Nat), j + m = ns → J yX1_isSameByJoining.cls yX1_isSameByJoining.name cX1_isSameByJoining 3 (some .boolean) 10 0 0 cy (fun r w' => ∃ I' : kI, r = some (.int (kb true)) ∧ w' = wc cy S I' L R LP ∧ f7b I0 I') kF 21 [(0, .ref (ka S 1 0)), (1, .int (nI i)), (2, .int (nI j))] [] (wc cy S I L R LP) 0 0 := by
  have hns := hst0.2
  have hst := hfr.st hst0
  intro m
  induction m with
  | zero =>
    intro j hj
    have hj : j = ns := by omega
    rw [hj]
    refine J_iload_n 2 rfl dX1_isSameByJoining_21 ?_
    refine J_aload_n 0 rfl dX1_isSameByJoining_22 ?_
    refine gf_1_33 (n1 _) dX1_isSameByJoining_23 ?_
    refine J_topeq (nI ns) hst.1 ?_
    refine J_icmp_ge 54 (by decide) dX1_isSameByJoining_26 (fun c1 => ?_) (fun c1 => ?_)
    rotate_left
    · exfalso
      have Nc1 : ¬ (ns ≤ ns) := fun q => c1 ((nI_leI (a := ns) (b := ns) (by omega) (by omega)).mpr q)
      omega
    have Nc1 : ns ≤ ns := (nI_leI (a := ns) (b := ns) (by omega) (by omega)).mp c1
    refine J_sub (lv' := [(0, .ref (ka S 1 0)), (1, .int (nI i))]) [0, 1] rfl ?_
    exact kk
  | succ m ih =>
    intro j hj
    have hjn : j < ns := by omega
    have hd := dS_le (adj := cAdj I0) (ns := ns) (e := i) (s := j)
    refine J_iload_n 2 rfl dX1_isSameByJoining_21 ?_
    refine J_aload_n 0 rfl dX1_isSameByJoining_22 ?_
    refine gf_1_33 (n1 _) dX1_isSameByJoining_23 ?_
    refine J_topeq (nI ns) hst.1 ?_
    refine J_icmp_ge 54 (by decide) dX1_isSameByJoining_26 (fun c1 => ?_) (fun c1 => ?_)
    · exfalso
      have Nc1 : ns ≤ j := (nI_leI (a := ns) (b := j) (by omega) (by omega)).mp c1
      omega
    have Nc1 : ¬ (ns ≤ j) := fun q => c1 ((nI_leI (a := ns) (b := j) (by omega) (by omega)).mpr q)
    refine J_aload_n 0 rfl dX1_isSameByJoining_29 ?_
    refine gf_1_17 (n1 _) dX1_isSameByJoining_30 ?_
    refine J_iload_n 2 rfl dX1_isSameByJoining_33 ?_
    refine J_iald j 0 (n7 _) rfl rfl (vp_in_nI (by omega) (by decide)) (nI_toNat (by omega)) dX1_isSameByJoining_34 ?_
    refine J_topeq (nI (dS (cAdj I0) ns i j)) (hv j (by omega)) ?_
    refine J_aload_n 0 rfl dX1_isSameByJoining_35 ?_
    refine gf_1_29 (n1 _) dX1_isSameByJoining_36 ?_
    refine J_iload_n 2 rfl dX1_isSameByJoining_39 ?_
    refine J_aald2 j 8 (n10 _) rfl rfl (vp_in_nI (by omega) (by decide)) (nI_toNat (by omega)) dX1_isSameByJoining_40 ?_
    refine J_iload_n 1 rfl dX1_isSameByJoining_41 ?_
    refine J_iald i 0 (n11 _ (by omega)) rfl rfl (vp_in_nI (by omega) (by decide)) (nI_toNat (by omega)) dX1_isSameByJoining_42 ?_
    refine J_topeq (nI (dS (cAdj I0) ns i j)) (hm j i hjn hi) ?_
    refine J_icmp_eq 48 (by decide) dX1_isSameByJoining_43 (fun c2 => ?_) (fun c2 => ?_)
    rotate_left
    · exfalso
      have Nc2 : ¬ ((dS (cAdj I0) ns i j) = (dS (cAdj I0) ns i j)) := fun q => c2 ((nI_eqL (a := (dS (cAdj I0) ns i j)) (b := (dS (cAdj I0) ns i j)) (by omega) (by omega)).mpr q)
      omega
    have Nc2 : (dS (cAdj I0) ns i j) = (dS (cAdj I0) ns i j) := (nI_eqL (a := (dS (cAdj I0) ns i j)) (b := (dS (cAdj I0) ns i j)) (by omega) (by omega)).mp c2
    refine J_iinc (v := (nI (j + 1))) (lv' := [(0, .ref (ka S 1 0)), (1, .int (nI i)), (2, .int (nI (j + 1)))]) 2 rfl (by exact nI_add j 1) (by decide) rfl dX1_isSameByJoining_48 ?_
    refine J_goto 21 (by decide) dX1_isSameByJoining_51 ?_
    refine J_eq (lv' := [(0, .ref (ka S 1 0)), (1, .int (nI i)), (2, .int (nI (j + 1)))]) rfl rfl rfl ?_
    exact ih (j + 1) (by omega)

set_option maxRecDepth 20000 in
set_option maxHeartbeats 1000000 in
theorem l1_X1_isSameByJoining {cy : Nat → ClassId} {S : Nat → Nat → Nat} {I0 : kI} {L : kL} {R : kRf} {LP : List Nat} {ns : Nat} (hst0 : stF I0 ns) : ∀ (m i : Nat) (I : kI), i + m = ns → f7b I0 I → (∀ a b, a < ns → b < ns → I 11 a b = nI (dS (cAdj I0) ns b a)) → J yX1_isSameByJoining.cls yX1_isSameByJoining.name cX1_isSameByJoining 3 (some .boolean) 10 0 0 cy (fun r w' => ∃ I' : kI, r = some (.int (kb true)) ∧ w' = wc cy S I' L R LP ∧ f7b I0 I') kF 6 [(0, .ref (ka S 1 0)), (1, .int (nI i))] [] (wc cy S I L R LP) 0 0 := by
  have hns := hst0.2
  intro m
  induction m with
  | zero =>
    intro i I hi hfr hm
    have hst := hfr.st hst0
    have hi : i = ns := by omega
    rw [hi]
    refine J_iload_n 1 rfl dX1_isSameByJoining_6 ?_
    refine J_aload_n 0 rfl dX1_isSameByJoining_7 ?_
    refine gf_1_33 (n1 _) dX1_isSameByJoining_8 ?_
    refine J_topeq (nI ns) hst.1 ?_
    refine J_icmp_ge 60 (by decide) dX1_isSameByJoining_11 (fun c1 => ?_) (fun c1 => ?_)
    rotate_left
    · exfalso
      have Nc1 : ¬ (ns ≤ ns) := fun q => c1 ((nI_leI (a := ns) (b := ns) (by omega) (by omega)).mpr q)
      omega
    have Nc1 : ns ≤ ns := (nI_leI (a := ns) (b := ns) (by omega) (by omega)).mp c1
    refine J_iconst (v := 1) (by decide) dX1_isSameByJoining_60 ?_
    exact J_ireturn rfl (by first | rfl | assumption | simp [kb_nar]) dX1_isSameByJoining_61 (⟨I, rfl, rfl, hfr⟩) (by omega) (by omega)
  | succ m ih =>
    intro i I hi hfr hm
    have hst := hfr.st hst0
    have hin : i < ns := by omega
    refine J_iload_n 1 rfl dX1_isSameByJoining_6 ?_
    refine J_aload_n 0 rfl dX1_isSameByJoining_7 ?_
    refine gf_1_33 (n1 _) dX1_isSameByJoining_8 ?_
    refine J_topeq (nI ns) hst.1 ?_
    refine J_icmp_ge 60 (by decide) dX1_isSameByJoining_11 (fun c1 => ?_) (fun c1 => ?_)
    · exfalso
      have Nc1 : ns ≤ i := (nI_leI (a := ns) (b := i) (by omega) (by omega)).mp c1
      omega
    have Nc1 : ¬ (ns ≤ i) := fun q => c1 ((nI_leI (a := ns) (b := i) (by omega) (by omega)).mpr q)
    refine J_aload_n 0 rfl dX1_isSameByJoining_14 ?_
    refine J_iload_n 1 rfl dX1_isSameByJoining_15 ?_
    refine cv_1_62 (cells' := 0) (slots' := 0) dX1_isSameByJoining_16 (c_X1_countStepsTo hst hin) (n1 _) ⟨by decide, by decide⟩ rfl rfl (by decide) (by decide) (Nat.le_of_ble_eq_true rfl) (fun _ _ r2 => ?_) (fun _ _ h => h.elim)
    obtain ⟨I2, rfl, rfl, hf2, hv2⟩ := r2
    refine J_eq (st' := []) rfl rfl rfl ?_
    rw [hfr.ad] at hv2
    have hfr2 : f7b I0 I2 := fun k q h1 h2 h3 => (hf2 k q h1 h2).trans (hfr k q h1 h2 h3)
    have hm2 : ∀ a b, a < ns → b < ns → I2 11 a b = nI (dS (cAdj I0) ns b a) := fun a b ha hb => by rw [hf2 11 a (by decide) (by decide)]; exact hm a b ha hb
    refine J_iconst (v := 0) (by decide) dX1_isSameByJoining_19 ?_
    refine J_istore_n (lv' := [(0, .ref (ka S 1 0)), (1, .int (nI i)), (2, .int 0)]) (by decide) rfl dX1_isSameByJoining_20 ?_
    refine J_eq (lv' := [(0, .ref (ka S 1 0)), (1, .int (nI i)), (2, .int (nI 0))]) rfl rfl rfl ?_
    refine l2_X1_isSameByJoining hst0 hin hfr2 hm2 hv2 ?_ ns 0 (by omega)
    refine J_iinc (v := (nI (i + 1))) (lv' := [(0, .ref (ka S 1 0)), (1, .int (nI (i + 1)))]) 1 rfl (by exact nI_add i 1) (by decide) rfl dX1_isSameByJoining_54 ?_
    refine J_goto 6 (by decide) dX1_isSameByJoining_57 ?_
    refine J_eq (lv' := [(0, .ref (ka S 1 0)), (1, .int (nI (i + 1)))]) rfl rfl rfl ?_
    exact ih (i + 1) I2 (by omega) hfr2 hm2

set_option maxRecDepth 20000 in
set_option maxHeartbeats 1000000 in
theorem c_X1_isSameByJoining {cy : Nat → ClassId} {S : Nat → Nat → Nat} {I0 : kI} {L : kL} {R : kRf} {LP : List Nat} {ns : Nat} (hst0 : stF I0 ns) : Con yX1_isSameByJoining cX1_isSameByJoining 3 (some .boolean) 10 0 0 cy [.ref (ka S 1 0)] (wc cy S I0 L R LP) (fun r w' => ∃ I' : kI, r = some (.int (kb true)) ∧ w' = wc cy S I' L R LP ∧ f7b I0 I') kF := by
  have hns := hst0.2
  refine Con_of (by decide +kernel) (Nat.le_of_ble_eq_true rfl) ?_
  refine J_eq (lv' := [(0, .ref (ka S 1 0))]) rfl rfl rfl ?_
  refine J_aload_n 0 rfl dX1_isSameByJoining_0 ?_
  refine cv_1_89 (cells' := 0) (slots' := 0) dX1_isSameByJoining_1 (c_X1_joinWays hst0) (n1 _) ⟨by decide, by decide⟩ rfl rfl (by decide) (by decide) (Nat.le_of_ble_eq_true rfl) (fun _ _ r1 => ?_) (fun _ _ h => h.elim)
  obtain ⟨I1, rfl, rfl, hf1, hm1⟩ := r1
  refine J_eq (st' := []) rfl rfl rfl ?_
  refine J_iconst (v := 0) (by decide) dX1_isSameByJoining_4 ?_
  refine J_istore_n (lv' := [(0, .ref (ka S 1 0)), (1, .int 0)]) (by decide) rfl dX1_isSameByJoining_5 ?_
  refine J_eq (lv' := [(0, .ref (ka S 1 0)), (1, .int (nI 0))]) rfl rfl rfl ?_
  exact l1_X1_isSameByJoining hst0 ns 0 I1 (by omega) (fun k q _ _ h3 => hf1 k q h3) hm1

