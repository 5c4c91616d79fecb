/-! Coast: the way -/
def oI (r : Option Nat) : Int32 := match r with
  | none => -1
  | some s => nI s
theorem rng_find {p : Nat → Bool} {n i : Nat} (hpre : ∀ j, j < i → p j = false) (hi : i < n) (hp : p i = true) : (List.range n).find? p = some i := by
  rw [List.find?_range_eq_some]
  exact ⟨hp, List.mem_range.mpr hi, fun j hj => by simp [hpre j hj]⟩
theorem rng_none {p : Nat → Bool} {n : Nat} (h : ∀ j, j < n → p j = false) : (List.range n).find? p = none := List.find?_eq_none.mpr fun j hj => by simp [h j (List.mem_range.mp hj)]
theorem dS_le {adj : Nat → Nat → Bool} {ns e s : Nat} : dS adj ns e s ≤ 1000 := by unfold dS; split <;> omega
theorem nI_pre {x y : Nat} (hx : x ≤ 1000) (hy : y ≤ 1000) : nI x = nI y - 1 ↔ x + 1 = y := by
  constructor
  · intro h
    have h1 : nI x + 1 = nI y := by rw [h]; grind
    rw [nI_1] at h1
    exact (nI_eq (by omega) (by omega)).mp h1
  · intro h
    rw [← h, ← nI_1]; grind
/-- the next station, by the class's own numbers -/
def nxF (I : kI) (ns e a : Nat) : Option Nat := (List.range ns).find? (fun s => decide (dS (cAdj I) ns e s + 1 = dS (cAdj I) ns e a) && linkB I a s)
theorem find_congr {α : Type} {p q : α → Bool} {l : List α} (h : ∀ a ∈ l, p a = q a) : l.find? p = l.find? q := by
  induction l with
  | nil => rfl
  | cons a l ih =>
    rw [List.find?_cons, List.find?_cons, h a List.mem_cons_self, ih (fun b hb => h b (List.mem_cons_of_mem _ hb))]
theorem nxF_eq {I : kI} {ns e a : Nat} (ha : a < ns) (h : gD (cAdj I) ns e a < 99) : nxF I ns e a = gNx (cAdj I) ns e a := by
  unfold nxF gNx
  have hda : dS (cAdj I) ns e a = gD (cAdj I) ns e a := if_pos ⟨ha, h⟩
  rw [hda]
  refine find_congr fun s hs => ?_
  have hs := List.mem_range.mp hs
  have e1 : (dS (cAdj I) ns e s + 1 = gD (cAdj I) ns e a) ↔ (gD (cAdj I) ns e s + 1 = gD (cAdj I) ns e a) := by
    unfold dS
    by_cases hz : gD (cAdj I) ns e s < 99
    · rw [if_pos ⟨hs, hz⟩]
    · rw [if_neg (fun q => hz q.2)]
      constructor <;> (intro q; omega)
  have e2 : decide (dS (cAdj I) ns e s + 1 = gD (cAdj I) ns e a) = decide (gD (cAdj I) ns e s + 1 = gD (cAdj I) ns e a) := decide_eq_decide.mpr e1
  rw [e2]
  by_cases hd : gD (cAdj I) ns e s + 1 = gD (cAdj I) ns e a
  · have hne : a ≠ s := fun q => by rw [q] at hd; omega
    simp [cAdj, hne, hd]
  · simp [hd]
theorem nxF_none {I : kI} {ns e a : Nat} (hns : ns ≤ 10) (he : e < ns) (h : ¬ (a < ns ∧ gD (cAdj I) ns e a < 99)) : nxF I ns e a = none := by
  unfold nxF
  refine rng_none fun s hs => ?_
  have h2 : dS (cAdj I) ns e a = 1000 := if_neg h
  rw [h2]
  have h3 : dS (cAdj I) ns e s ≠ 999 := by
    unfold dS
    rcases gD_or (adj := cAdj I) hns he hs with q | q
    · rw [if_pos ⟨hs, by omega⟩]; omega
    · rw [if_neg (by omega)]; omega
  simp only [Bool.and_eq_false_iff, decide_eq_false_iff_not]
  left; omega

set_option maxRecDepth 20000 in
set_option maxHeartbeats 1000000 in
theorem l_X1_nextOnWay {cy : Nat → ClassId} {S : Nat → Nat → Nat} {I0 I : kI} {L : kL} {R : kRf} {LP : List Nat} {ns e a : Nat} (hst : stF I ns) (hlk : ∀ x y, linkB I x y = linkB I0 x y) (hv : ∀ s, s < 10 → I 7 0 s = nI (dS (cAdj I0) ns e s)) (ha : a < ns) : ∀ (m i : Nat), i + m = ns → (∀ j, j < i → (decide (dS (cAdj I0) ns e j + 1 = dS (cAdj I0) ns e a) && linkB I0 a j) = false) → J yX1_nextOnWay.cls yX1_nextOnWay.name cX1_nextOnWay 4 (some .int) 7 0 0 cy (kRet (some (.int (oI (nxF I0 ns e a)))) (wc cy S I L R LP)) kF 8 [(0, .ref (ka S 1 0)), (1, .int (nI a)), (2, .ref (ka S 17 a)), (3, .int (nI i))] [] (wc cy S I L R LP) 0 0 := by
  have hns := hst.2
  intro m
  induction m with
  | zero =>
    intro i hi hpre
    have hi : i = ns := by omega
    rw [hi]
    rw [hi] at hpre
    refine J_iload_n 3 rfl dX1_nextOnWay_8 ?_
    refine J_aload_n 0 rfl dX1_nextOnWay_9 ?_
    refine gf_1_33 (n1 _) dX1_nextOnWay_10 ?_
    refine J_topeq (nI ns) hst.1 ?_
    refine J_icmp_ge 54 (by decide) dX1_nextOnWay_13 (fun c1 => ?_) (fun c1 => ?_)
    rotate_left
    · exfalso
      have Nc1 : ¬ (ns ≤ ns) := fun q => c1 ((nI_leI (a := ns) (b := ns) (by omega) (by omega)).mpr q)
      omega
    have Nc1 : ns ≤ ns := (nI_leI (a := ns) (b := ns) (by omega) (by omega)).mp c1
    refine J_iconst (v := (-1)) (by decide) dX1_nextOnWay_54 ?_
    exact J_ireturn rfl (by first | rfl | assumption | simp [kb_nar]) dX1_nextOnWay_55 (⟨by unfold nxF; rw [rng_none hpre]; rfl, rfl⟩) (by omega) (by omega)
  | succ m ih =>
    intro i hi hpre
    refine J_iload_n 3 rfl dX1_nextOnWay_8 ?_
    refine J_aload_n 0 rfl dX1_nextOnWay_9 ?_
    refine gf_1_33 (n1 _) dX1_nextOnWay_10 ?_
    refine J_topeq (nI ns) hst.1 ?_
    refine J_icmp_ge 54 (by decide) dX1_nextOnWay_13 (fun c1 => ?_) (fun c1 => ?_)
    · exfalso
      have Nc1 : ns ≤ i := (nI_leI (a := ns) (b := i) (by omega) (by omega)).mp c1
      omega
    have Nc1 : ¬ (ns ≤ i) := fun q => c1 ((nI_leI (a := ns) (b := i) (by omega) (by omega)).mpr q)
    refine J_aload_n 0 rfl dX1_nextOnWay_16 ?_
    refine gf_1_17 (n1 _) dX1_nextOnWay_17 ?_
    refine J_iload_n 3 rfl dX1_nextOnWay_20 ?_
    refine J_iald i 0 (n7 _) rfl rfl (vp_in_nI (by omega) (by decide)) (nI_toNat (by omega)) dX1_nextOnWay_21 ?_
    refine J_topeq (nI (dS (cAdj I0) ns e i)) (hv i (by omega)) ?_
    refine J_aload_n 0 rfl dX1_nextOnWay_22 ?_
    refine gf_1_17 (n1 _) dX1_nextOnWay_23 ?_
    refine J_iload_n 1 rfl dX1_nextOnWay_26 ?_
    refine J_iald a 0 (n7 _) rfl rfl (vp_in_nI (by omega) (by decide)) (nI_toNat (by omega)) dX1_nextOnWay_27 ?_
    refine J_topeq (nI (dS (cAdj I0) ns e a)) (hv a (by omega)) ?_
    refine J_iconst (v := 1) (by decide) dX1_nextOnWay_28 ?_
    refine J_isub dX1_nextOnWay_29 ?_
    refine J_icmp_ne 48 (by decide) dX1_nextOnWay_30 (fun c2 => ?_) (fun c2 => ?_)
    · skip
      refine J_iinc (v := (nI (i + 1))) (lv' := [(0, .ref (ka S 1 0)), (1, .int (nI a)), (2, .ref (ka S 17 a)), (3, .int (nI (i + 1)))]) 3 rfl (by exact nI_add i 1) (by decide) rfl dX1_nextOnWay_48 ?_
      refine J_goto 8 (by decide) dX1_nextOnWay_51 ?_
      refine J_eq (lv' := [(0, .ref (ka S 1 0)), (1, .int (nI a)), (2, .ref (ka S 17 a)), (3, .int (nI (i + 1)))]) rfl rfl rfl ?_
      refine ih (i + 1) (by omega) (fun j hj => ?_)
      by_cases z : j = i
      · subst z
        rw [decide_eq_false (fun q => c2 ((nI_pre dS_le dS_le).mpr q))]; rfl
      · exact hpre j (by omega)
    · skip
      refine J_aload_n 2 rfl dX1_nextOnWay_33 ?_
      refine J_aload_n 0 rfl dX1_nextOnWay_34 ?_
      refine gf_1_11 (n1 _) dX1_nextOnWay_35 ?_
      refine J_iload_n 3 rfl dX1_nextOnWay_38 ?_
      refine J_aald i 6 (n6 _) rfl rfl (vp_in_nI (by omega) (by decide)) (nI_toNat (by omega)) dX1_nextOnWay_39 ?_
      refine cv_1_58 (cells' := 0) (slots' := 0) dX1_nextOnWay_40 (c_X6_isLinkedTo (by omega) (by omega)) (n17 _ (by omega)) ⟨by decide, by decide⟩ rfl rfl (by decide) (by decide) (Nat.le_of_ble_eq_true rfl) (fun _ _ r4 => ?_) (fun _ _ h => h.elim)
      obtain ⟨rfl, rfl⟩ := r4
      refine J_eq (st' := [.int (kb (linkB I a i))]) rfl rfl rfl ?_
      refine J_if_eq 48 (by decide) dX1_nextOnWay_43 (fun c5 => ?_) (fun c5 => ?_)
      · skip
        refine J_iinc (v := (nI (i + 1))) (lv' := [(0, .ref (ka S 1 0)), (1, .int (nI a)), (2, .ref (ka S 17 a)), (3, .int (nI (i + 1)))]) 3 rfl (by exact nI_add i 1) (by decide) rfl dX1_nextOnWay_48 ?_
        refine J_goto 8 (by decide) dX1_nextOnWay_51 ?_
        refine J_eq (lv' := [(0, .ref (ka S 1 0)), (1, .int (nI a)), (2, .ref (ka S 17 a)), (3, .int (nI (i + 1)))]) rfl rfl rfl ?_
        refine ih (i + 1) (by omega) (fun j hj => ?_)
        by_cases z : j = i
        · subst z
          rw [kb_0, hlk] at c5; rw [c5]; simp
        · exact hpre j (by omega)
      · skip
        refine J_iload_n 3 rfl dX1_nextOnWay_46 ?_
        exact J_ireturn rfl (by first | rfl | assumption | simp [kb_nar]) dX1_nextOnWay_47 (⟨by unfold nxF; rw [rng_find hpre (by omega) (by rw [kb_n0, hlk] at c5; rw [c5, decide_eq_true ((nI_pre dS_le dS_le).mp c2)]; rfl)]; rfl, rfl⟩) (by omega) (by omega)

set_option maxRecDepth 20000 in
set_option maxHeartbeats 1000000 in
theorem c_X1_nextOnWay {cy : Nat → ClassId} {S : Nat → Nat → Nat} {I0 I : kI} {L : kL} {R : kRf} {LP : List Nat} {ns e a : Nat} (hst : stF I ns) (hlk : ∀ x y, linkB I x y = linkB I0 x y) (hv : ∀ s, s < 10 → I 7 0 s = nI (dS (cAdj I0) ns e s)) (ha : a < ns) : Con yX1_nextOnWay cX1_nextOnWay 4 (some .int) 7 0 0 cy [.ref (ka S 1 0), .int (nI a)] (wc cy S I L R LP) (kRet (some (.int (oI (nxF I0 ns e a)))) (wc cy S I L R LP)) kF := by
  have hns := hst.2
  refine Con_of (by decide +kernel) (Nat.le_of_ble_eq_true rfl) ?_
  refine J_eq (lv' := [(0, .ref (ka S 1 0)), (1, .int (nI a))]) rfl rfl rfl ?_
  refine J_aload_n 0 rfl dX1_nextOnWay_0 ?_
  refine J_iload_n 1 rfl dX1_nextOnWay_1 ?_
  refine cv_1_54 (cells' := 0) (slots' := 0) dX1_nextOnWay_2 (c_X1_numbered_s hst ha) (n1 _) ⟨by decide, by decide⟩ rfl rfl (by decide) (by decide) (Nat.le_of_ble_eq_true rfl) (fun _ _ r1 => ?_) (fun _ _ h => h.elim)
  obtain ⟨rfl, rfl⟩ := r1
  refine J_eq (st' := [.ref (ka S 17 a)]) rfl rfl rfl ?_
  refine J_astore_n (lv' := [(0, .ref (ka S 1 0)), (1, .int (nI a)), (2, .ref (ka S 17 a))]) (by decide) rfl dX1_nextOnWay_5 ?_
  refine J_iconst (v := 0) (by decide) dX1_nextOnWay_6 ?_
  refine J_istore_n (lv' := [(0, .ref (ka S 1 0)), (1, .int (nI a)), (2, .ref (ka S 17 a)), (3, .int 0)]) (by decide) rfl dX1_nextOnWay_7 ?_
  refine J_eq (lv' := [(0, .ref (ka S 1 0)), (1, .int (nI a)), (2, .ref (ka S 17 a)), (3, .int (nI 0))]) rfl rfl rfl ?_
  exact l_X1_nextOnWay hst hlk hv ha ns 0 (by omega) (fun j hj => absurd hj (by omega))

def f789 (I0 I : kI) : Prop := ∀ k i, k ≠ 7 → k ≠ 8 → k ≠ 9 → I k i = I0 k i
theorem f78.to {I0 I : kI} (h : f78 I0 I) : f789 I0 I := fun k i h1 h2 _ => h k i h1 h2
theorem f789.st {I0 I : kI} {ns : Nat} (h : f789 I0 I) (hs : stF I0 ns) : stF I ns := ⟨by rw [h 1 0 (by decide) (by decide) (by decide)]; exact hs.1, hs.2⟩
theorem f789.lk {I0 I : kI} (h : f789 I0 I) (a b : Nat) : linkB I a b = linkB I0 a b := linkB_congr (fun i => h 17 i (by decide) (by decide) (by decide)) a b
theorem oI_none : oI none = -1 := rfl
theorem oI_some (s : Nat) : oI (some s) = nI s := rfl

theorem nI_nm1 {s : Nat} (h : s < 2 ^ 31) : ¬ nI s = -1 := by
  intro q
  have h1 := nI_toInt h
  rw [q] at h1
  have h2 : ((-1) : Int32).toInt = -1 := by decide
  rw [h2] at h1
  omega

set_option maxRecDepth 20000 in
set_option maxHeartbeats 1000000 in
theorem l_X1_findWay {cy : Nat → ClassId} {S : Nat → Nat → Nat} {I0 : kI} {L : kL} {R : kRf} {LP : List Nat} {ns e f : Nat} (hst0 : stF I0 ns) (he : e < ns) (hf : f < ns) : ∀ (m i a : Nat) (I : kI) (pre : List Nat), i + m = 9 → f789 I0 I → (∀ s, s < 10 → I 7 0 s = nI (dS (cAdj I0) ns e s)) → pre.length = i → a < ns → gD (cAdj I0) ns e a + i < 10 → pre ++ gW (cAdj I0) ns e (m + 1) a = gWay (cAdj I0) ns e f → (∀ (j x : Nat), pre[j]? = some x → I 9 0 j = nI x) → J yX1_findWay.cls yX1_findWay.name cX1_findWay 5 (some .int) 8 0 0 cy (fun r w' => ∃ I' : kI, r = some (.int (nI (gWay (cAdj I0) ns e f).length)) ∧ w' = wc cy S I' L R LP ∧ f789 I0 I' ∧ ∀ j x, (gWay (cAdj I0) ns e f)[j]? = some x → I' 9 0 j = nI x) kF 10 [(0, .ref (ka S 1 0)), (1, .int (nI f)), (2, .int (nI e)), (3, .int (nI a)), (4, .int (nI i))] [] (wc cy S I L R LP) 0 0 := by
  have hns := hst0.2
  intro m
  induction m with
  | zero =>
    intro i a I pre hi hfr hv hlen ha hd hpath hpv
    have hae : a = e := by
      have : gD (cAdj I0) ns e a = 0 := by omega
      exact gD_zero this
    have hp1 : gW (cAdj I0) ns e (0 + 1) a = [a] := by rw [gW, if_pos hae]
    refine J_iload 4 rfl dX1_findWay_10 ?_
    refine J_aload_n 0 rfl dX1_findWay_12 ?_
    refine gf_1_24 (n1 _) dX1_findWay_13 ?_
    refine J_alen (v := 10) 0 (n9 _) rfl rfl rfl dX1_findWay_16 ?_
    refine J_icmp_ge 57 (by decide) dX1_findWay_17 (fun c1 => ?_) (fun c1 => ?_)
    · exfalso
      have Nc1 : 10 ≤ i := (nI_leI (a := 10) (b := i) (by omega) (by omega)).mp c1
      omega
    have Nc1 : ¬ (10 ≤ i) := fun q => c1 ((nI_leI (a := 10) (b := i) (by omega) (by omega)).mpr q)
    refine J_aload_n 0 rfl dX1_findWay_20 ?_
    refine gf_1_24 (n1 _) dX1_findWay_21 ?_
    refine J_iload 4 rfl dX1_findWay_24 ?_
    refine J_iload_n 3 rfl dX1_findWay_26 ?_
    refine J_iast (I' := ku I 9 0 i (nI a)) (L' := L) (R' := R) i 0 (n9 _) rfl rfl (vp_in_nI (by omega) (by decide)) (nI_toNat (by omega)) (by rw [ku_own]; rfl) (fun k' i' h => ⟨ku_row _ _ h, rfl, rfl⟩) dX1_findWay_27 ?_
    refine J_iload_n 3 rfl dX1_findWay_28 ?_
    refine J_iload_n 2 rfl dX1_findWay_29 ?_
    refine J_icmp_ne 38 (by decide) dX1_findWay_30 (fun c2 => ?_) (fun c2 => ?_)
    · exfalso
      have Nc2 : ¬ (a = e) := fun q => c2 ((nI_eqL (a := a) (b := e) (by omega) (by omega)).mpr q)
      omega
    have Nc2 : a = e := (nI_eqL (a := a) (b := e) (by omega) (by omega)).mp c2
    refine J_iload 4 rfl dX1_findWay_33 ?_
    refine J_iconst (v := 1) (by decide) dX1_findWay_35 ?_
    refine J_iadd dX1_findWay_36 ?_
    refine J_topeq (nI (i + 1)) (by exact nI_add i 1) ?_
    exact J_ireturn rfl (by first | rfl | assumption | simp [kb_nar]) dX1_findWay_37 (⟨_, by rw [← hpath, hp1]; simp [hlen], rfl, fun k q h1 h2 h3 => by rw [ku_row _ _ (fun z => h3 (congrArg Prod.fst z))]; exact hfr k q h1 h2 h3, fun j x hx => by
        rw [← hpath, hp1] at hx
        by_cases z : j = i
        · subst z; rw [ku_eq]; rw [← hlen, List.getElem?_append_right (Nat.le_refl _)] at hx; simp at hx; rw [hx]
        · rw [ku_f _ _ _ _ z]
          have hjl := (List.getElem?_eq_some_iff.mp hx).1
          rw [List.length_append] at hjl
          simp at hjl
          rw [List.getElem?_append_left (by omega)] at hx
          exact hpv j x hx⟩) (by omega) (by omega)
  | succ m ih =>
    intro i a I pre hi hfr hv hlen ha hd hpath hpv
    refine J_iload 4 rfl dX1_findWay_10 ?_
    refine J_aload_n 0 rfl dX1_findWay_12 ?_
    refine gf_1_24 (n1 _) dX1_findWay_13 ?_
    refine J_alen (v := 10) 0 (n9 _) rfl rfl rfl dX1_findWay_16 ?_
    refine J_icmp_ge 57 (by decide) dX1_findWay_17 (fun c1 => ?_) (fun c1 => ?_)
    · exfalso
      have Nc1 : 10 ≤ i := (nI_leI (a := 10) (b := i) (by omega) (by omega)).mp c1
      omega
    have Nc1 : ¬ (10 ≤ i) := fun q => c1 ((nI_leI (a := 10) (b := i) (by omega) (by omega)).mpr q)
    refine J_aload_n 0 rfl dX1_findWay_20 ?_
    refine gf_1_24 (n1 _) dX1_findWay_21 ?_
    refine J_iload 4 rfl dX1_findWay_24 ?_
    refine J_iload_n 3 rfl dX1_findWay_26 ?_
    refine J_iast (I' := ku I 9 0 i (nI a)) (L' := L) (R' := R) i 0 (n9 _) rfl rfl (vp_in_nI (by omega) (by decide)) (nI_toNat (by omega)) (by rw [ku_own]; rfl) (fun k' i' h => ⟨ku_row _ _ h, rfl, rfl⟩) dX1_findWay_27 ?_
    refine J_iload_n 3 rfl dX1_findWay_28 ?_
    refine J_iload_n 2 rfl dX1_findWay_29 ?_
    refine J_icmp_ne 38 (by decide) dX1_findWay_30 (fun c2 => ?_) (fun c2 => ?_)
    · have Nc2 : ¬ (a = e) := fun q => c2 ((nI_eqL (a := a) (b := e) (by omega) (by omega)).mpr q)
      refine J_aload_n 0 rfl dX1_findWay_38 ?_
      refine J_iload_n 3 rfl dX1_findWay_39 ?_
      have hfr2 : f789 I0 (ku I 9 0 i (nI a)) := fun k q h1 h2 h3 => by rw [ku_row _ _ (fun z => h3 (congrArg Prod.fst z))]; exact hfr k q h1 h2 h3
      have hv2 : ∀ s, s < 10 → (ku I 9 0 i (nI a)) 7 0 s = nI (dS (cAdj I0) ns e s) := fun s hs => by rw [ku_k (k := 9) (k' := 7) _ _ _ _ (by decide)]; exact hv s hs
      have hne : a ≠ e := Nc2
      obtain ⟨d9, hd9⟩ : ∃ d9, gD (cAdj I0) ns e a = d9 + 1 := ⟨gD (cAdj I0) ns e a - 1, by have h0 : gD (cAdj I0) ns e a ≠ 0 := fun q => hne (gD_zero q); omega⟩
      obtain ⟨s, hs1, hs2, hs3, hs4⟩ := gNx_some hns he ha hd9 (by omega)
      refine cv_1_66 (cells' := 0) (slots' := 0) dX1_findWay_40 (c_X1_nextOnWay (I0 := I0) (hfr2.st hst0) hfr2.lk hv2 ha) (n1 _) ⟨by decide, by decide⟩ rfl rfl (by decide) (by decide) (Nat.le_of_ble_eq_true rfl) (fun _ _ r3 => ?_) (fun _ _ h => h.elim)
      obtain ⟨rfl, rfl⟩ := r3
      refine J_eq (st' := [.int (oI (nxF I0 ns e a))]) rfl rfl rfl ?_
      rw [nxF_eq ha (by omega), hs1]
      refine J_eq (st' := [.int (nI s)]) rfl rfl rfl ?_
      refine J_istore_n (lv' := [(0, .ref (ka S 1 0)), (1, .int (nI f)), (2, .int (nI e)), (3, .int (nI s)), (4, .int (nI i))]) (by decide) rfl dX1_findWay_43 ?_
      refine J_iload_n 3 rfl dX1_findWay_44 ?_
      refine J_iconst (v := (-1)) (by decide) dX1_findWay_45 ?_
      refine J_icmp_ne 51 (by decide) dX1_findWay_46 (fun c4 => ?_) (fun c4 => ?_)
      rotate_left
      · exfalso
        exact nI_nm1 (by omega) c4
      refine J_iinc (v := (nI (i + 1))) (lv' := [(0, .ref (ka S 1 0)), (1, .int (nI f)), (2, .int (nI e)), (3, .int (nI s)), (4, .int (nI (i + 1)))]) 4 rfl (by exact nI_add i 1) (by decide) rfl dX1_findWay_51 ?_
      refine J_goto 10 (by decide) dX1_findWay_54 ?_
      refine J_eq (lv' := [(0, .ref (ka S 1 0)), (1, .int (nI f)), (2, .int (nI e)), (3, .int (nI s)), (4, .int (nI (i + 1)))]) rfl rfl rfl ?_
      refine ih (i + 1) s _ (pre ++ [a]) (by omega) hfr2 hv2 (by simp [hlen]) hs2 (by omega) ?_ (fun j x hx => ?_)
      · rw [← hpath]
        have hg : gW (cAdj I0) ns e (m + 1 + 1) a = a :: gW (cAdj I0) ns e (m + 1) s := by rw [gW, if_neg hne, hs1]
        rw [hg]; simp
      · by_cases z : j = i
        · subst z; rw [ku_eq]; rw [← hlen, List.getElem?_append_right (Nat.le_refl _)] at hx; simp at hx; rw [hx]
        · rw [ku_f _ _ _ _ z]
          have hjl := (List.getElem?_eq_some_iff.mp hx).1
          rw [List.length_append] at hjl
          simp at hjl
          rw [List.getElem?_append_left (by omega)] at hx
          exact hpv j x hx
    · have Nc2 : a = e := (nI_eqL (a := a) (b := e) (by omega) (by omega)).mp c2
      refine J_iload 4 rfl dX1_findWay_33 ?_
      refine J_iconst (v := 1) (by decide) dX1_findWay_35 ?_
      refine J_iadd dX1_findWay_36 ?_
      refine J_topeq (nI (i + 1)) (by exact nI_add i 1) ?_
      exact J_ireturn rfl (by first | rfl | assumption | simp [kb_nar]) dX1_findWay_37 (⟨_, by rw [← hpath, show gW (cAdj I0) ns e (m + 1 + 1) a = [a] from by rw [gW, if_pos Nc2]]; simp [hlen], rfl, fun k q h1 h2 h3 => by rw [ku_row _ _ (fun z => h3 (congrArg Prod.fst z))]; exact hfr k q h1 h2 h3, fun j x hx => by
        rw [← hpath, show gW (cAdj I0) ns e (m + 1 + 1) a = [a] from by rw [gW, if_pos Nc2]] at hx
        by_cases z : j = i
        · subst z; rw [ku_eq]; rw [← hlen, List.getElem?_append_right (Nat.le_refl _)] at hx; simp at hx; rw [hx]
        · rw [ku_f _ _ _ _ z]
          have hjl := (List.getElem?_eq_some_iff.mp hx).1
          rw [List.length_append] at hjl
          simp at hjl
          rw [List.getElem?_append_left (by omega)] at hx
          exact hpv j x hx⟩) (by omega) (by omega)

set_option maxRecDepth 20000 in
set_option maxHeartbeats 1000000 in
theorem c_X1_findWay {cy : Nat → ClassId} {S : Nat → Nat → Nat} {I0 : kI} {L : kL} {R : kRf} {LP : List Nat} {ns e f : Nat} (hst0 : stF I0 ns) (he : e < ns) (hf : f < ns) : Con yX1_findWay cX1_findWay 5 (some .int) 8 0 0 cy [.ref (ka S 1 0), .int (nI f), .int (nI e)] (wc cy S I0 L R LP) (fun r w' => ∃ I' : kI, r = some (.int (nI (gWay (cAdj I0) ns e f).length)) ∧ w' = wc cy S I' L R LP ∧ f789 I0 I' ∧ ∀ j x, (gWay (cAdj I0) ns e f)[j]? = some x → I' 9 0 j = nI x) kF := by
  have hns := hst0.2
  refine Con_of (by decide +kernel) (Nat.le_of_ble_eq_true rfl) ?_
  refine J_eq (lv' := [(0, .ref (ka S 1 0)), (1, .int (nI f)), (2, .int (nI e))]) rfl rfl rfl ?_
  by_cases hd : gD (cAdj I0) ns e f < 99
  · skip
    refine J_aload_n 0 rfl dX1_findWay_0 ?_
    refine J_iload_n 2 rfl dX1_findWay_1 ?_
    refine cv_1_62 (cells' := 0) (slots' := 0) dX1_findWay_2 (c_X1_countStepsTo hst0 he) (n1 _) ⟨by decide, by decide⟩ rfl rfl (by decide) (by decide) (Nat.le_of_ble_eq_true rfl) (fun _ _ r1 => ?_) (fun _ _ h => h.elim)
    obtain ⟨I1, rfl, rfl, hf1, hv1⟩ := r1
    refine J_eq (st' := []) rfl rfl rfl ?_
    refine J_iload_n 1 rfl dX1_findWay_5 ?_
    refine J_istore_n (lv' := [(0, .ref (ka S 1 0)), (1, .int (nI f)), (2, .int (nI e)), (3, .int (nI f))]) (by decide) rfl dX1_findWay_6 ?_
    refine J_iconst (v := 0) (by decide) dX1_findWay_7 ?_
    refine J_istore (lv' := [(0, .ref (ka S 1 0)), (1, .int (nI f)), (2, .int (nI e)), (3, .int (nI f)), (4, .int 0)]) (by decide) rfl dX1_findWay_8 ?_
    refine J_eq (lv' := [(0, .ref (ka S 1 0)), (1, .int (nI f)), (2, .int (nI e)), (3, .int (nI f)), (4, .int (nI 0))]) rfl rfl rfl ?_
    exact l_X1_findWay hst0 he hf 9 0 f I1 [] rfl hf1.to hv1 rfl hf (by have := (gD_some (adj := cAdj I0) (n := ns) (t := e) (s := f) rfl hd).2.1; omega) (by unfold gWay; rw [if_pos hd]; rfl) (fun j x hx => by simp at hx)
  · have hfe : ¬ f = e := fun q => hd (by rw [q, gD_end hns he]; decide)
    refine J_aload_n 0 rfl dX1_findWay_0 ?_
    refine J_iload_n 2 rfl dX1_findWay_1 ?_
    refine cv_1_62 (cells' := 0) (slots' := 0) dX1_findWay_2 (c_X1_countStepsTo hst0 he) (n1 _) ⟨by decide, by decide⟩ rfl rfl (by decide) (by decide) (Nat.le_of_ble_eq_true rfl) (fun _ _ r1 => ?_) (fun _ _ h => h.elim)
    obtain ⟨I1, rfl, rfl, hf1, hv1⟩ := r1
    refine J_eq (st' := []) rfl rfl rfl ?_
    refine J_iload_n 1 rfl dX1_findWay_5 ?_
    refine J_istore_n (lv' := [(0, .ref (ka S 1 0)), (1, .int (nI f)), (2, .int (nI e)), (3, .int (nI f))]) (by decide) rfl dX1_findWay_6 ?_
    refine J_iconst (v := 0) (by decide) dX1_findWay_7 ?_
    refine J_istore (lv' := [(0, .ref (ka S 1 0)), (1, .int (nI f)), (2, .int (nI e)), (3, .int (nI f)), (4, .int 0)]) (by decide) rfl dX1_findWay_8 ?_
    refine J_iload 4 rfl dX1_findWay_10 ?_
    refine J_aload_n 0 rfl dX1_findWay_12 ?_
    refine gf_1_24 (n1 _) dX1_findWay_13 ?_
    refine J_alen (v := 10) 0 (n9 _) rfl rfl rfl dX1_findWay_16 ?_
    refine J_icmp_ge 57 (by decide) dX1_findWay_17 (fun c2 => ?_) (fun c2 => ?_)
    · exact absurd c2 (by decide)
    refine J_aload_n 0 rfl dX1_findWay_20 ?_
    refine gf_1_24 (n1 _) dX1_findWay_21 ?_
    refine J_iload 4 rfl dX1_findWay_24 ?_
    refine J_iload_n 3 rfl dX1_findWay_26 ?_
    refine J_iast (I' := ku I1 9 0 0 (nI f)) (L' := L) (R' := R) 0 0 (n9 _) rfl rfl (vp_in_iff.mpr (by decide)) (by decide) (by rw [ku_own]; rfl) (fun k' i' h => ⟨ku_row _ _ h, rfl, rfl⟩) dX1_findWay_27 ?_
    refine J_iload_n 3 rfl dX1_findWay_28 ?_
    refine J_iload_n 2 rfl dX1_findWay_29 ?_
    refine J_icmp_ne 38 (by decide) dX1_findWay_30 (fun c3 => ?_) (fun c3 => ?_)
    rotate_left
    · exfalso
      have Nc3 : f = e := (nI_eqL (a := f) (b := e) (by omega) (by omega)).mp c3
      omega
    have Nc3 : ¬ (f = e) := fun q => c3 ((nI_eqL (a := f) (b := e) (by omega) (by omega)).mpr q)
    refine J_aload_n 0 rfl dX1_findWay_38 ?_
    refine J_iload_n 3 rfl dX1_findWay_39 ?_
    have hfr2 : f789 I0 (ku I1 9 0 0 (nI f)) := fun k q h1 h2 h3 => by rw [ku_row _ _ (fun z => h3 (congrArg Prod.fst z))]; exact hf1 k q h1 h2
    have hv2 : ∀ s, s < 10 → (ku I1 9 0 0 (nI f)) 7 0 s = nI (dS (cAdj I0) ns e s) := fun s hs => by rw [ku_k (k := 9) (k' := 7) _ _ _ _ (by decide)]; exact hv1 s hs
    refine cv_1_66 (cells' := 0) (slots' := 0) dX1_findWay_40 (c_X1_nextOnWay (I0 := I0) (hfr2.st hst0) hfr2.lk hv2 hf) (n1 _) ⟨by decide, by decide⟩ rfl rfl (by decide) (by decide) (Nat.le_of_ble_eq_true rfl) (fun _ _ r4 => ?_) (fun _ _ h => h.elim)
    obtain ⟨rfl, rfl⟩ := r4
    refine J_eq (st' := [.int (oI (nxF I0 ns e f))]) rfl rfl rfl ?_
    rw [nxF_none hns he (fun q => hd q.2)]
    refine J_eq (st' := [.int (-1)]) rfl rfl rfl ?_
    refine J_istore_n (lv' := [(0, .ref (ka S 1 0)), (1, .int (nI f)), (2, .int (nI e)), (3, .int (-1)), (4, .int 0)]) (by decide) rfl dX1_findWay_43 ?_
    refine J_iload_n 3 rfl dX1_findWay_44 ?_
    refine J_iconst (v := (-1)) (by decide) dX1_findWay_45 ?_
    refine J_icmp_ne 51 (by decide) dX1_findWay_46 (fun c5 => ?_) (fun c5 => ?_)
    · exact absurd (by decide) c5
    refine J_iconst (v := 0) (by decide) dX1_findWay_49 ?_
    exact J_ireturn rfl (by first | rfl | assumption | simp [kb_nar]) dX1_findWay_50 (⟨_, by unfold gWay; rw [if_neg hd]; rfl, rfl, fun k q h1 h2 h3 => by rw [ku_row _ _ (fun z => h3 (congrArg Prod.fst z))]; exact hf1 k q h1 h2, fun j x hx => by unfold gWay at hx; rw [if_neg hd] at hx; simp at hx⟩) (by omega) (by omega)

set_option maxRecDepth 20000 in
set_option maxHeartbeats 1000000 in
theorem c_X1_stepsBetween {cy : Nat → ClassId} {S : Nat → Nat → Nat} {I0 : kI} {L : kL} {R : kRf} {LP : List Nat} {ns e f : Nat} (hst0 : stF I0 ns) (he : e < ns) (hf : f < ns) : Con yX1_stepsBetween cX1_stepsBetween 3 (some .int) 8 0 0 cy [.ref (ka S 1 0), .int (nI f), .int (nI e)] (wc cy S I0 L R LP) (fun r w' => ∃ I' : kI, r = some (.int (nI (dS (cAdj I0) ns e f))) ∧ w' = wc cy S I' L R LP ∧ f78 I0 I') kF := by
  have hns := hst0.2
  refine Con_of (by decide +kernel) (Nat.le_of_ble_eq_true rfl) ?_
  refine J_eq (lv' := [(0, .ref (ka S 1 0)), (1, .int (nI f)), (2, .int (nI e))]) rfl rfl rfl ?_
  refine J_aload_n 0 rfl dX1_stepsBetween_0 ?_
  refine J_iload_n 2 rfl dX1_stepsBetween_1 ?_
  refine cv_1_62 (cells' := 0) (slots' := 0) dX1_stepsBetween_2 (c_X1_countStepsTo hst0 he) (n1 _) ⟨by decide, by decide⟩ rfl rfl (by decide) (by decide) (Nat.le_of_ble_eq_true rfl) (fun _ _ r1 => ?_) (fun _ _ h => h.elim)
  obtain ⟨I1, rfl, rfl, hf1, hv1⟩ := r1
  refine J_eq (st' := []) rfl rfl rfl ?_
  refine J_iload_n 1 rfl dX1_stepsBetween_5 ?_
  refine J_if_lt 27 (by decide) dX1_stepsBetween_6 (fun c2 => ?_) (fun c2 => ?_)
  · exfalso
    have Nc2 : f < 0 := (nI_ltI (a := f) (b := 0) (by omega) (by omega)).mp c2
    omega
  have Nc2 : ¬ (f < 0) := fun q => c2 ((nI_ltI (a := f) (b := 0) (by omega) (by omega)).mpr q)
  refine J_iload_n 1 rfl dX1_stepsBetween_9 ?_
  refine J_aload_n 0 rfl dX1_stepsBetween_10 ?_
  refine gf_1_17 (n1 _) dX1_stepsBetween_11 ?_
  refine J_alen (v := 10) 0 (n7 _) rfl rfl rfl dX1_stepsBetween_14 ?_
  refine J_icmp_ge 27 (by decide) dX1_stepsBetween_15 (fun c3 => ?_) (fun c3 => ?_)
  · exfalso
    have Nc3 : 10 ≤ f := (nI_leI (a := 10) (b := f) (by omega) (by omega)).mp c3
    omega
  have Nc3 : ¬ (10 ≤ f) := fun q => c3 ((nI_leI (a := 10) (b := f) (by omega) (by omega)).mpr q)
  refine J_aload_n 0 rfl dX1_stepsBetween_18 ?_
  refine gf_1_17 (n1 _) dX1_stepsBetween_19 ?_
  refine J_iload_n 1 rfl dX1_stepsBetween_22 ?_
  refine J_iald f 0 (n7 _) rfl rfl (vp_in_nI (by omega) (by decide)) (nI_toNat (by omega)) dX1_stepsBetween_23 ?_
  refine J_goto 30 (by decide) dX1_stepsBetween_24 ?_
  exact J_ireturn rfl (by first | rfl | assumption | simp [kb_nar]) dX1_stepsBetween_30 (⟨_, by rw [hv1 f (by omega)], rfl, hf1⟩) (by omega) (by omega)

theorem gBits_s {l : List Nat} {i x : Nat} (h : l[i]? = some x) : gBits (l.take (i + 1)) = gBits (l.take i) ||| ((1 : Int32) <<< (nI x &&& 31)) := by
  unfold gBits
  rw [List.take_succ, h, List.foldl_append]
  rfl
theorem gWay_le {adj : Nat → Nat → Bool} {ns e f : Nat} (hns : ns ≤ 10) (he : e < ns) (hf : f < ns) : (gWay adj ns e f).length ≤ 10 ∧ ∀ s ∈ gWay adj ns e f, s < ns := by
  by_cases h : gD adj ns e f < 99
  · have h1 := gWay_len (adj := adj) hns he hf h
    have := (gD_some (adj := adj) (n := ns) (t := e) (s := f) rfl h).2.1
    exact ⟨by omega, h1.2.1⟩
  · unfold gWay
    rw [if_neg h]
    exact ⟨by simp, fun s hs => by simp at hs⟩

set_option maxRecDepth 20000 in
set_option maxHeartbeats 1000000 in
theorem l_X1_membersOfWay {cy : Nat → ClassId} {S : Nat → Nat → Nat} {I0 : kI} {L : kL} {R : kRf} {LP : List Nat} {ns e f : Nat} (hst0 : stF I0 ns) (he : e < ns) (hf : f < ns) {I : kI} (hfr : f789 I0 I) (hw : ∀ j x, (gWay (cAdj I0) ns e f)[j]? = some x → I 9 0 j = nI x) : ∀ (m i : Nat), i + m = (gWay (cAdj I0) ns e f).length → J yX1_membersOfWay.cls yX1_membersOfWay.name cX1_membersOfWay 6 (some .int) 9 0 0 cy (fun r w' => ∃ I' : kI, r = some (.int (gBits (gWay (cAdj I0) ns e f))) ∧ w' = wc cy S I' L R LP ∧ f789 I0 I') kF 13 [(0, .ref (ka S 1 0)), (1, .int (nI f)), (2, .int (nI e)), (3, .int (nI (gWay (cAdj I0) ns e f).length)), (4, .int (gBits ((gWay (cAdj I0) ns e f).take i))), (5, .int (nI i))] [] (wc cy S I L R LP) 0 0 := by
  have hns := hst0.2
  have hlen := (gWay_le (adj := cAdj I0) hns he hf).1
  intro m
  induction m with
  | zero =>
    intro i hi
    have hi : i = (gWay (cAdj I0) ns e f).length := by omega
    rw [hi]
    refine J_iload 5 rfl dX1_membersOfWay_13 ?_
    refine J_iload_n 3 rfl dX1_membersOfWay_15 ?_
    refine J_icmp_ge 49 (by decide) dX1_membersOfWay_16 (fun c1 => ?_) (fun c1 => ?_)
    rotate_left
    · exfalso
      have Nc1 : ¬ (((gWay (cAdj I0) ns e f).length) ≤ ((gWay (cAdj I0) ns e f).length)) := fun q => c1 ((nI_leI (a := ((gWay (cAdj I0) ns e f).length)) (b := ((gWay (cAdj I0) ns e f).length)) (by omega) (by omega)).mpr q)
      omega
    have Nc1 : ((gWay (cAdj I0) ns e f).length) ≤ ((gWay (cAdj I0) ns e f).length) := (nI_leI (a := ((gWay (cAdj I0) ns e f).length)) (b := ((gWay (cAdj I0) ns e f).length)) (by omega) (by omega)).mp c1
    refine J_iload 4 rfl dX1_membersOfWay_49 ?_
    exact J_ireturn rfl (by first | rfl | assumption | simp [kb_nar]) dX1_membersOfWay_51 (⟨I, by rw [List.take_length], rfl, hfr⟩) (by omega) (by omega)
  | succ m ih =>
    intro i hi
    obtain ⟨x, hx⟩ : ∃ x, (gWay (cAdj I0) ns e f)[i]? = some x := ⟨(gWay (cAdj I0) ns e f)[i]'(by omega), List.getElem?_eq_getElem (by omega)⟩
    refine J_iload 5 rfl dX1_membersOfWay_13 ?_
    refine J_iload_n 3 rfl dX1_membersOfWay_15 ?_
    refine J_icmp_ge 49 (by decide) dX1_membersOfWay_16 (fun c1 => ?_) (fun c1 => ?_)
    · exfalso
      have Nc1 : ((gWay (cAdj I0) ns e f).length) ≤ i := (nI_leI (a := ((gWay (cAdj I0) ns e f).length)) (b := i) (by omega) (by omega)).mp c1
      omega
    have Nc1 : ¬ (((gWay (cAdj I0) ns e f).length) ≤ i) := fun q => c1 ((nI_leI (a := ((gWay (cAdj I0) ns e f).length)) (b := i) (by omega) (by omega)).mpr q)
    refine J_iload 5 rfl dX1_membersOfWay_19 ?_
    refine J_aload_n 0 rfl dX1_membersOfWay_21 ?_
    refine gf_1_24 (n1 _) dX1_membersOfWay_22 ?_
    refine J_alen (v := 10) 0 (n9 _) rfl rfl rfl dX1_membersOfWay_25 ?_
    refine J_icmp_ge 49 (by decide) dX1_membersOfWay_26 (fun c2 => ?_) (fun c2 => ?_)
    · exfalso
      have Nc2 : 10 ≤ i := (nI_leI (a := 10) (b := i) (by omega) (by omega)).mp c2
      omega
    have Nc2 : ¬ (10 ≤ i) := fun q => c2 ((nI_leI (a := 10) (b := i) (by omega) (by omega)).mpr q)
    refine J_iload 4 rfl dX1_membersOfWay_29 ?_
    refine J_iconst (v := 1) (by decide) dX1_membersOfWay_31 ?_
    refine J_aload_n 0 rfl dX1_membersOfWay_32 ?_
    refine gf_1_24 (n1 _) dX1_membersOfWay_33 ?_
    refine J_iload 5 rfl dX1_membersOfWay_36 ?_
    refine J_iald i 0 (n9 _) rfl rfl (vp_in_nI (by omega) (by decide)) (nI_toNat (by omega)) dX1_membersOfWay_38 ?_
    refine J_topeq (nI x) (hw i x hx) ?_
    refine J_ishl dX1_membersOfWay_39 ?_
    refine J_ior dX1_membersOfWay_40 ?_
    refine J_istore (lv' := [(0, .ref (ka S 1 0)), (1, .int (nI f)), (2, .int (nI e)), (3, .int (nI (gWay (cAdj I0) ns e f).length)), (4, .int ((gBits ((gWay (cAdj I0) ns e f).take i)) ||| (1 <<< ((nI x) &&& 31)))), (5, .int (nI i))]) (by decide) rfl dX1_membersOfWay_41 ?_
    refine J_iinc (v := (nI (i + 1))) (lv' := [(0, .ref (ka S 1 0)), (1, .int (nI f)), (2, .int (nI e)), (3, .int (nI (gWay (cAdj I0) ns e f).length)), (4, .int ((gBits ((gWay (cAdj I0) ns e f).take i)) ||| (1 <<< ((nI x) &&& 31)))), (5, .int (nI (i + 1)))]) 5 rfl (by exact nI_add i 1) (by decide) rfl dX1_membersOfWay_43 ?_
    refine J_goto 13 (by decide) dX1_membersOfWay_46 ?_
    refine J_eq (lv' := [(0, .ref (ka S 1 0)), (1, .int (nI f)), (2, .int (nI e)), (3, .int (nI (gWay (cAdj I0) ns e f).length)), (4, .int (gBits ((gWay (cAdj I0) ns e f).take (i + 1)))), (5, .int (nI (i + 1)))]) rfl (by rw [gBits_s hx]) rfl ?_
    exact ih (i + 1) (by omega)

set_option maxRecDepth 20000 in
set_option maxHeartbeats 1000000 in
theorem c_X1_membersOfWay {cy : Nat → ClassId} {S : Nat → Nat → Nat} {I0 : kI} {L : kL} {R : kRf} {LP : List Nat} {ns e f : Nat} (hst0 : stF I0 ns) (he : e < ns) (hf : f < ns) : Con yX1_membersOfWay cX1_membersOfWay 6 (some .int) 9 0 0 cy [.ref (ka S 1 0), .int (nI f), .int (nI e)] (wc cy S I0 L R LP) (fun r w' => ∃ I' : kI, r = some (.int (gBits (gWay (cAdj I0) ns e f))) ∧ w' = wc cy S I' L R LP ∧ f789 I0 I') kF := by
  have hns := hst0.2
  refine Con_of (by decide +kernel) (Nat.le_of_ble_eq_true rfl) ?_
  refine J_eq (lv' := [(0, .ref (ka S 1 0)), (1, .int (nI f)), (2, .int (nI e))]) rfl rfl rfl ?_
  refine J_aload_n 0 rfl dX1_membersOfWay_0 ?_
  refine J_iload_n 1 rfl dX1_membersOfWay_1 ?_
  refine J_iload_n 2 rfl dX1_membersOfWay_2 ?_
  refine cv_1_70 (cells' := 0) (slots' := 0) dX1_membersOfWay_3 (c_X1_findWay hst0 he hf) (n1 _) ⟨by decide, by decide⟩ rfl rfl (by decide) (by decide) (Nat.le_of_ble_eq_true rfl) (fun _ _ r1 => ?_) (fun _ _ h => h.elim)
  obtain ⟨I1, rfl, rfl, hf1, hw1⟩ := r1
  refine J_eq (st' := [.int (nI (gWay (cAdj I0) ns e f).length)]) rfl rfl rfl ?_
  refine J_istore_n (lv' := [(0, .ref (ka S 1 0)), (1, .int (nI f)), (2, .int (nI e)), (3, .int (nI (gWay (cAdj I0) ns e f).length))]) (by decide) rfl dX1_membersOfWay_6 ?_
  refine J_iconst (v := 0) (by decide) dX1_membersOfWay_7 ?_
  refine J_istore (lv' := [(0, .ref (ka S 1 0)), (1, .int (nI f)), (2, .int (nI e)), (3, .int (nI (gWay (cAdj I0) ns e f).length)), (4, .int 0)]) (by decide) rfl dX1_membersOfWay_8 ?_
  refine J_iconst (v := 0) (by decide) dX1_membersOfWay_10 ?_
  refine J_istore (lv' := [(0, .ref (ka S 1 0)), (1, .int (nI f)), (2, .int (nI e)), (3, .int (nI (gWay (cAdj I0) ns e f).length)), (4, .int 0), (5, .int 0)]) (by decide) rfl dX1_membersOfWay_11 ?_
  refine J_eq (lv' := [(0, .ref (ka S 1 0)), (1, .int (nI f)), (2, .int (nI e)), (3, .int (nI (gWay (cAdj I0) ns e f).length)), (4, .int (gBits ((gWay (cAdj I0) ns e f).take 0))), (5, .int (nI 0))]) rfl rfl rfl ?_
  exact l_X1_membersOfWay hst0 he hf hf1 hw1 (gWay (cAdj I0) ns e f).length 0 (by omega)

