/-! Coast: the search from the end -/
def cAdj (I : kI) (a b : Nat) : Bool := decide (a ≠ b) && linkB I a b
theorem kabs_neg (z : Int32) : kabs z = kabs (0 - z) := by unfold kabs; grind
theorem kabs_symm (x y : Int32) : kabs (x - y) = kabs (y - x) := by
  have h : y - x = 0 - (x - y) := by grind
  rw [h]; exact kabs_neg _
theorem kmin_symm (x y : Int32) : kmin x y = kmin y x := by grind
theorem linkB_symm (I : kI) (a b : Nat) : linkB I a b = linkB I b a := by
  unfold linkB
  rw [kabs_symm, kmin_symm]
  cases decide (I 17 a 2 ≠ 0) <;> cases decide (I 17 b 2 ≠ 0) <;> rfl
theorem linkB_congr {I I' : kI} (h : ∀ i, I' 17 i = I 17 i) (a b : Nat) : linkB I' a b = linkB I a b := by unfold linkB; rw [h a, h b]
theorem cAdj_congr {I I' : kI} (h : ∀ i, I' 17 i = I 17 i) (a b : Nat) : cAdj I' a b = cAdj I a b := by unfold cAdj; rw [linkB_congr h]
theorem bInv_le {adj : Nat → Nat → Bool} {ns e : Nat} {Q : List Nat} {v : Nat → Nat} {p : Nat} (hns : ns ≤ 10) (h : bInv adj ns e Q v p) (x : Nat) : v x ≤ 1000 ∧ (x ∈ Q → v x < 10) ∧ (v x = 1000 ↔ x ∉ Q) := by
  have hl := nd_len h.1 h.2.1
  have hq : x ∈ Q → v x < 10 := by
    intro hx
    obtain ⟨i, hi⟩ := List.getElem?_of_mem hx
    have := (List.getElem?_eq_some_iff.mp hi).1
    have := h.2.2.2.2.2.2.2.1 i x hi
    omega
  by_cases hx : x ∈ Q
  · have := hq hx
    exact ⟨by omega, hq, by constructor; (intro; omega); (intro q; exact absurd hx q)⟩
  · have := h.2.2.2.2.2.1 x hx
    exact ⟨by omega, hq, by simp [this, hx]⟩
/-- what the search leaves as it was -/
def f78 (I0 I : kI) : Prop := ∀ k i, k ≠ 7 → k ≠ 8 → I k i = I0 k i
theorem f78.st {I0 I : kI} {ns : Nat} (h : f78 I0 I) (hs : stF I0 ns) : stF I ns := ⟨by rw [h 1 0 (by decide) (by decide)]; exact hs.1, hs.2⟩
theorem f78.lk {I0 I : kI} (h : f78 I0 I) (a b : Nat) : linkB I a b = linkB I0 a b := linkB_congr (fun i => h 17 i (by decide) (by decide)) a b

set_option maxRecDepth 20000 in
set_option maxHeartbeats 1000000 in
theorem l3_X1_countStepsTo {cy : Nat → ClassId} {S : Nat → Nat → Nat} {I0 : kI} {L : kL} {R : kRf} {LP : List Nat} {ns e : Nat} (hst0 : stF I0 ns) (he : e < ns) {p o : Nat} (hp : p < 10) (kk : ∀ (I : kI) (Q : List Nat) (v : Nat → Nat), f78 I0 I → bInv (cAdj I0) ns e Q v p → (∀ s, s < 10 → I 7 0 s = nI (v s)) → (∀ (j x : Nat), Q[j]? = some x → I 8 0 j = nI x) → Q[p]? = some o → (∀ s, s < ns → cAdj I0 s o = true → s ∈ Q) → J yX1_countStepsTo.cls yX1_countStepsTo.name cX1_countStepsTo 7 none 7 0 0 cy (fun r w' => ∃ I' : kI, r = none ∧ w' = wc cy S I' L R LP ∧ f78 I0 I' ∧ ∀ s, s < 10 → I' 7 0 s = nI (dS (cAdj I0) ns e s)) kF 158 [(0, .ref (ka S 1 0)), (1, .int (nI e)), (2, .int (nI Q.length)), (3, .int (nI p))] [] (wc cy S I L R LP) 0 0) :
    ∀ (m t : Nat) (I : kI) (Q : List Nat) (v : Nat → Nat), t + m = ns → f78 I0 I → bInv (cAdj I0) ns e Q v p → (∀ s, s < 10 → I 7 0 s = nI (v s)) → (∀ (j x : Nat), Q[j]? = some x → I 8 0 j = nI x) → Q[p]? = some o → (∀ s, s < t → cAdj I0 s o = true → s ∈ Q) → J yX1_countStepsTo.cls yX1_countStepsTo.name cX1_countStepsTo 7 none 7 0 0 cy (fun r w' => ∃ I' : kI, r = none ∧ w' = wc cy S I' L R LP ∧ f78 I0 I' ∧ ∀ s, s < 10 → I' 7 0 s = nI (dS (cAdj I0) ns e s)) kF 79 [(0, .ref (ka S 1 0)), (1, .int (nI e)), (2, .int (nI Q.length)), (3, .int (nI p)), (4, .int (nI o)), (5, .ref (ka S 17 o)), (6, .int (nI t))] [] (wc cy S I L R LP) 0 0 := by
  have hns := hst0.2
  intro m
  induction m with
  | zero =>
    intro t I Q v ht hfr hb hv hr ho hall
    have hst := hfr.st hst0
    have ht : t = ns := by omega
    rw [ht]
    rw [ht] at hall
    refine J_iload 6 rfl dX1_countStepsTo_79 ?_
    refine J_aload_n 0 rfl dX1_countStepsTo_81 ?_
    refine gf_1_33 (n1 _) dX1_countStepsTo_82 ?_
    refine J_topeq (nI ns) hst.1 ?_
    refine J_icmp_ge 158 (by decide) dX1_countStepsTo_85 (fun c1 => ?_) (fun c1 => ?_)
    rotate_left
    · exfalso
      have Nc1 : ¬ (ns ≤ ns) := fun q => c1 ((nI_leI (a := ns) (b := ns) (by omega) (by omega)).mpr q)
      omega
    have Nc1 : ns ≤ ns := (nI_leI (a := ns) (b := ns) (by omega) (by omega)).mp c1
    refine J_sub (lv' := [(0, .ref (ka S 1 0)), (1, .int (nI e)), (2, .int (nI Q.length)), (3, .int (nI p))]) [0, 1, 2, 3] rfl ?_
    exact kk I Q v hfr hb hv hr ho hall
  | succ m ih =>
    intro t I Q v ht hfr hb hv hr ho hall
    have hst := hfr.st hst0
    have hle := bInv_le hns hb
    have hlt := hle t
    have hlo := hle o
    have hoQ : o ∈ Q := List.mem_of_getElem? ho
    have hon := hb.2.1 o hoQ
    have hql := nd_len hb.1 hb.2.1
    refine J_iload 6 rfl dX1_countStepsTo_79 ?_
    refine J_aload_n 0 rfl dX1_countStepsTo_81 ?_
    refine gf_1_33 (n1 _) dX1_countStepsTo_82 ?_
    refine J_topeq (nI ns) hst.1 ?_
    refine J_icmp_ge 158 (by decide) dX1_countStepsTo_85 (fun c1 => ?_) (fun c1 => ?_)
    · exfalso
      have Nc1 : ns ≤ t := (nI_leI (a := ns) (b := t) (by omega) (by omega)).mp c1
      omega
    have Nc1 : ¬ (ns ≤ t) := fun q => c1 ((nI_leI (a := ns) (b := t) (by omega) (by omega)).mpr q)
    refine J_iload_n 2 rfl dX1_countStepsTo_88 ?_
    refine J_aload_n 0 rfl dX1_countStepsTo_89 ?_
    refine gf_1_21 (n1 _) dX1_countStepsTo_90 ?_
    refine J_alen (v := 10) 0 (n8 _) rfl rfl rfl dX1_countStepsTo_93 ?_
    refine J_icmp_ge 158 (by decide) dX1_countStepsTo_94 (fun c2 => ?_) (fun c2 => ?_)
    · have Nc2 : 10 ≤ Q.length := (nI_leI (a := 10) (b := Q.length) (by omega) (by omega)).mp c2
      refine J_sub (lv' := [(0, .ref (ka S 1 0)), (1, .int (nI e)), (2, .int (nI Q.length)), (3, .int (nI p))]) [0, 1, 2, 3] rfl ?_
      exact kk I Q v hfr hb hv hr ho (fun s hs _ => nd_full hb.1 hb.2.1 (by omega) s hs)
    · have Nc2 : ¬ (10 ≤ Q.length) := fun q => c2 ((nI_leI (a := 10) (b := Q.length) (by omega) (by omega)).mpr q)
      refine J_aload_n 0 rfl dX1_countStepsTo_97 ?_
      refine gf_1_17 (n1 _) dX1_countStepsTo_98 ?_
      refine J_iload 6 rfl dX1_countStepsTo_101 ?_
      refine J_iald t 0 (n7 _) rfl rfl (vp_in_nI (by omega) (by decide)) (nI_toNat (by omega)) dX1_countStepsTo_103 ?_
      refine J_topeq (nI (v t)) (hv t (by omega)) ?_
      refine J_sipush (v := 1000) (by decide) dX1_countStepsTo_104 ?_
      refine J_icmp_ne 152 (by decide) dX1_countStepsTo_107 (fun c3 => ?_) (fun c3 => ?_)
      · have Nc3 : ¬ ((v t) = 1000) := fun q => c3 ((nI_eqL (a := (v t)) (b := 1000) (by omega) (by omega)).mpr q)
        refine J_iinc (v := (nI (t + 1))) (lv' := [(0, .ref (ka S 1 0)), (1, .int (nI e)), (2, .int (nI Q.length)), (3, .int (nI p)), (4, .int (nI o)), (5, .ref (ka S 17 o)), (6, .int (nI (t + 1)))]) 6 rfl (by exact nI_add t 1) (by decide) rfl dX1_countStepsTo_152 ?_
        refine J_goto 79 (by decide) dX1_countStepsTo_155 ?_
        refine J_eq (lv' := [(0, .ref (ka S 1 0)), (1, .int (nI e)), (2, .int (nI Q.length)), (3, .int (nI p)), (4, .int (nI o)), (5, .ref (ka S 17 o)), (6, .int (nI (t + 1)))]) rfl rfl rfl ?_
        refine ih (t + 1) I Q v (by omega) hfr hb hv hr ho (fun s hs ha => ?_)
        by_cases q : s = t
        · subst q
          first | exact (Classical.not_not.mp (fun h9 => Nc3 (hlt.2.2.mpr h9))) | (exfalso; unfold cAdj at ha; rw [kb_0, hfr.lk, linkB_symm] at c0; rw [c0] at ha; simp at ha)
        · exact hall s (by omega) ha
      · have Nc3 : (v t) = 1000 := (nI_eqL (a := (v t)) (b := 1000) (by omega) (by omega)).mp c3
        refine J_aload 5 rfl dX1_countStepsTo_110 ?_
        refine J_aload_n 0 rfl dX1_countStepsTo_112 ?_
        refine gf_1_11 (n1 _) dX1_countStepsTo_113 ?_
        refine J_iload 6 rfl dX1_countStepsTo_116 ?_
        refine J_aald t 6 (n6 _) rfl rfl (vp_in_nI (by omega) (by decide)) (nI_toNat (by omega)) dX1_countStepsTo_118 ?_
        refine cv_1_58 (cells' := 0) (slots' := 0) dX1_countStepsTo_119 (c_X6_isLinkedTo (by omega) (by omega)) (n17 _ (by omega)) ⟨by decide, by decide⟩ rfl rfl (by decide) (by decide) (Nat.le_of_ble_eq_true rfl) (fun _ _ r5 => ?_) (fun _ _ h => h.elim)
        obtain ⟨rfl, rfl⟩ := r5
        refine J_eq (st' := [.int (kb (linkB I o t))]) rfl rfl rfl ?_
        refine J_if_eq 152 (by decide) dX1_countStepsTo_122 (fun c6 => ?_) (fun c6 => ?_)
        · skip
          refine J_iinc (v := (nI (t + 1))) (lv' := [(0, .ref (ka S 1 0)), (1, .int (nI e)), (2, .int (nI Q.length)), (3, .int (nI p)), (4, .int (nI o)), (5, .ref (ka S 17 o)), (6, .int (nI (t + 1)))]) 6 rfl (by exact nI_add t 1) (by decide) rfl dX1_countStepsTo_152 ?_
          refine J_goto 79 (by decide) dX1_countStepsTo_155 ?_
          refine J_eq (lv' := [(0, .ref (ka S 1 0)), (1, .int (nI e)), (2, .int (nI Q.length)), (3, .int (nI p)), (4, .int (nI o)), (5, .ref (ka S 17 o)), (6, .int (nI (t + 1)))]) rfl rfl rfl ?_
          refine ih (t + 1) I Q v (by omega) hfr hb hv hr ho (fun s hs ha => ?_)
          by_cases q : s = t
          · subst q
            first | exact (Classical.not_not.mp (fun h9 => Nc3 (hlt.2.2.mpr h9))) | (exfalso; unfold cAdj at ha; rw [kb_0, hfr.lk, linkB_symm] at c6; rw [c6] at ha; simp at ha)
          · exact hall s (by omega) ha
        · skip
          have hnt : t ∉ Q := hlt.2.2.mp Nc3
          have hadj : cAdj I0 t o = true := by rw [kb_n0, hfr.lk, linkB_symm] at c6; unfold cAdj; rw [c6]; simp; intro q; exact hnt (q ▸ hoQ)
          refine J_aload_n 0 rfl dX1_countStepsTo_125 ?_
          refine gf_1_17 (n1 _) dX1_countStepsTo_126 ?_
          refine J_iload 6 rfl dX1_countStepsTo_129 ?_
          refine J_aload_n 0 rfl dX1_countStepsTo_131 ?_
          refine gf_1_17 (n1 _) dX1_countStepsTo_132 ?_
          refine J_iload 4 rfl dX1_countStepsTo_135 ?_
          refine J_iald o 0 (n7 _) rfl rfl (vp_in_nI (by omega) (by decide)) (nI_toNat (by omega)) dX1_countStepsTo_137 ?_
          refine J_topeq (nI (v o)) (hv o (by omega)) ?_
          refine J_iconst (v := 1) (by decide) dX1_countStepsTo_138 ?_
          refine J_iadd dX1_countStepsTo_139 ?_
          refine J_topeq (nI (v o + 1)) (by exact nI_add (v o) 1) ?_
          refine J_iast (I' := ku I 7 0 t (nI (v o + 1))) (L' := L) (R' := R) t 0 (n7 _) rfl rfl (vp_in_nI (by omega) (by decide)) (nI_toNat (by omega)) (by rw [ku_own]; rfl) (fun k' i' h => ⟨ku_row _ _ h, rfl, rfl⟩) dX1_countStepsTo_140 ?_
          refine J_aload_n 0 rfl dX1_countStepsTo_141 ?_
          refine gf_1_21 (n1 _) dX1_countStepsTo_142 ?_
          refine J_iload_n 2 rfl dX1_countStepsTo_145 ?_
          refine J_iload 6 rfl dX1_countStepsTo_146 ?_
          refine J_iast (I' := ku (ku I 7 0 t (nI (v o + 1))) 8 0 Q.length (nI t)) (L' := L) (R' := R) Q.length 0 (n8 _) rfl rfl (vp_in_nI (by omega) (by decide)) (nI_toNat (by omega)) (by rw [ku_own]; rfl) (fun k' i' h => ⟨ku_row _ _ h, rfl, rfl⟩) dX1_countStepsTo_148 ?_
          refine J_iinc (v := (nI (Q.length + 1))) (lv' := [(0, .ref (ka S 1 0)), (1, .int (nI e)), (2, .int (nI (Q.length + 1))), (3, .int (nI p)), (4, .int (nI o)), (5, .ref (ka S 17 o)), (6, .int (nI t))]) 2 rfl (by exact nI_add Q.length 1) (by decide) rfl dX1_countStepsTo_149 ?_
          refine J_iinc (v := (nI (t + 1))) (lv' := [(0, .ref (ka S 1 0)), (1, .int (nI e)), (2, .int (nI (Q.length + 1))), (3, .int (nI p)), (4, .int (nI o)), (5, .ref (ka S 17 o)), (6, .int (nI (t + 1)))]) 6 rfl (by exact nI_add t 1) (by decide) rfl dX1_countStepsTo_152 ?_
          refine J_goto 79 (by decide) dX1_countStepsTo_155 ?_
          refine J_eq (lv' := [(0, .ref (ka S 1 0)), (1, .int (nI e)), (2, .int (nI (Q ++ [t]).length)), (3, .int (nI p)), (4, .int (nI o)), (5, .ref (ka S 17 o)), (6, .int (nI (t + 1)))]) rfl (by simp) rfl ?_
          refine ih (t + 1) _ (Q ++ [t]) (va_up v t (v o + 1)) (by omega) (fun k i h1 h2 => ?_) (bInv_add hb ho (by omega) hnt hadj) (fun s hs => ?_) (fun j x hx => ?_) (by rw [List.getElem?_append_left (List.getElem?_eq_some_iff.mp ho).1]; exact ho) (fun s hs ha => ?_)
          · rw [ku_row _ _ (fun q => h2 (congrArg Prod.fst q)), ku_row _ _ (fun q => h1 (congrArg Prod.fst q))]; exact hfr k i h1 h2
          · rw [ku_k (k := 8) (k' := 7) _ _ _ _ (by decide)]
            by_cases q : s = t
            · subst q; rw [ku_eq]; simp [va_up]
            · rw [ku_f _ _ _ _ q, hv s hs]; simp [va_up, q]
          · by_cases q : j = Q.length
            · subst q; rw [ku_eq]; rw [List.getElem?_append_right (Nat.le_refl _)] at hx; simp at hx; rw [hx]
            · rw [ku_f _ _ _ _ q, ku_k (k := 7) (k' := 8) _ _ _ _ (by decide)]
              refine hr j x ?_
              have hjl : j < (Q ++ [t]).length := (List.getElem?_eq_some_iff.mp hx).1
              rw [List.length_append] at hjl
              simp at hjl
              rw [List.getElem?_append_left (by omega)] at hx
              exact hx
          · by_cases q : s = t
            · subst q; simp
            · exact List.mem_append_left _ (hall s (by omega) ha)

set_option maxRecDepth 20000 in
set_option maxHeartbeats 1000000 in
theorem l2_X1_countStepsTo {cy : Nat → ClassId} {S : Nat → Nat → Nat} {I0 : kI} {L : kL} {R : kRf} {LP : List Nat} {ns e : Nat} (hst0 : stF I0 ns) (he : e < ns) : ∀ (m p : Nat) (I : kI) (Q : List Nat) (v : Nat → Nat), p + m = 10 → f78 I0 I → bInv (cAdj I0) ns e Q v p → (∀ s, s < 10 → I 7 0 s = nI (v s)) → (∀ (j x : Nat), Q[j]? = some x → I 8 0 j = nI x) → J yX1_countStepsTo.cls yX1_countStepsTo.name cX1_countStepsTo 7 none 7 0 0 cy (fun r w' => ∃ I' : kI, r = none ∧ w' = wc cy S I' L R LP ∧ f78 I0 I' ∧ ∀ s, s < 10 → I' 7 0 s = nI (dS (cAdj I0) ns e s)) kF 46 [(0, .ref (ka S 1 0)), (1, .int (nI e)), (2, .int (nI Q.length)), (3, .int (nI p))] [] (wc cy S I L R LP) 0 0 := by
  have hns := hst0.2
  intro m
  induction m with
  | zero =>
    intro p I Q v ht hfr hb hv hr
    have hql := nd_len hb.1 hb.2.1
    have hp9 : Q.length ≤ p := by omega
    refine J_iload_n 3 rfl dX1_countStepsTo_46 ?_
    refine J_iload_n 2 rfl dX1_countStepsTo_47 ?_
    refine J_icmp_ge 164 (by decide) dX1_countStepsTo_48 (fun c1 => ?_) (fun c1 => ?_)
    rotate_left
    · exfalso
      have Nc1 : ¬ (Q.length ≤ p) := fun q => c1 ((nI_leI (a := Q.length) (b := p) (by omega) (by omega)).mpr q)
      omega
    have Nc1 : Q.length ≤ p := (nI_leI (a := Q.length) (b := p) (by omega) (by omega)).mp c1
    exact J_return rfl dX1_countStepsTo_164 (⟨I, rfl, rfl, hfr, fun s hs => by rw [hv s hs, bInv_end hns he hb (by omega) s]⟩) (by omega) (by omega)
  | succ m ih =>
    intro p I Q v ht hfr hb hv hr
    have hst := hfr.st hst0
    have hql := nd_len hb.1 hb.2.1
    refine J_iload_n 3 rfl dX1_countStepsTo_46 ?_
    refine J_iload_n 2 rfl dX1_countStepsTo_47 ?_
    refine J_icmp_ge 164 (by decide) dX1_countStepsTo_48 (fun c1 => ?_) (fun c1 => ?_)
    · have Nc1 : Q.length ≤ p := (nI_leI (a := Q.length) (b := p) (by omega) (by omega)).mp c1
      exact J_return rfl dX1_countStepsTo_164 (⟨I, rfl, rfl, hfr, fun s hs => by rw [hv s hs, bInv_end hns he hb (by omega) s]⟩) (by omega) (by omega)
    · have Nc1 : ¬ (Q.length ≤ p) := fun q => c1 ((nI_leI (a := Q.length) (b := p) (by omega) (by omega)).mpr q)
      obtain ⟨o, ho⟩ : ∃ o, Q[p]? = some o := ⟨Q[p]'(by omega), List.getElem?_eq_getElem (by omega)⟩
      have hon := hb.2.1 o (List.mem_of_getElem? ho)
      refine J_iload_n 3 rfl dX1_countStepsTo_51 ?_
      refine J_aload_n 0 rfl dX1_countStepsTo_52 ?_
      refine gf_1_21 (n1 _) dX1_countStepsTo_53 ?_
      refine J_alen (v := 10) 0 (n8 _) rfl rfl rfl dX1_countStepsTo_56 ?_
      refine J_icmp_ge 164 (by decide) dX1_countStepsTo_57 (fun c2 => ?_) (fun c2 => ?_)
      · exfalso
        have Nc2 : 10 ≤ p := (nI_leI (a := 10) (b := p) (by omega) (by omega)).mp c2
        omega
      have Nc2 : ¬ (10 ≤ p) := fun q => c2 ((nI_leI (a := 10) (b := p) (by omega) (by omega)).mpr q)
      refine J_aload_n 0 rfl dX1_countStepsTo_60 ?_
      refine gf_1_21 (n1 _) dX1_countStepsTo_61 ?_
      refine J_iload_n 3 rfl dX1_countStepsTo_64 ?_
      refine J_iald p 0 (n8 _) rfl rfl (vp_in_nI (by omega) (by decide)) (nI_toNat (by omega)) dX1_countStepsTo_65 ?_
      refine J_topeq (nI o) (hr p o ho) ?_
      refine J_istore (lv' := [(0, .ref (ka S 1 0)), (1, .int (nI e)), (2, .int (nI Q.length)), (3, .int (nI p)), (4, .int (nI o))]) (by decide) rfl dX1_countStepsTo_66 ?_
      refine J_aload_n 0 rfl dX1_countStepsTo_68 ?_
      refine J_iload 4 rfl dX1_countStepsTo_69 ?_
      refine cv_1_54 (cells' := 0) (slots' := 0) dX1_countStepsTo_71 (c_X1_numbered_s hst hon) (n1 _) ⟨by decide, by decide⟩ rfl rfl (by decide) (by decide) (Nat.le_of_ble_eq_true rfl) (fun _ _ r3 => ?_) (fun _ _ h => h.elim)
      obtain ⟨rfl, rfl⟩ := r3
      refine J_eq (st' := [.ref (ka S 17 o)]) rfl rfl rfl ?_
      refine J_astore (lv' := [(0, .ref (ka S 1 0)), (1, .int (nI e)), (2, .int (nI Q.length)), (3, .int (nI p)), (4, .int (nI o)), (5, .ref (ka S 17 o))]) (by decide) rfl dX1_countStepsTo_74 ?_
      refine J_iconst (v := 0) (by decide) dX1_countStepsTo_76 ?_
      refine J_istore (lv' := [(0, .ref (ka S 1 0)), (1, .int (nI e)), (2, .int (nI Q.length)), (3, .int (nI p)), (4, .int (nI o)), (5, .ref (ka S 17 o)), (6, .int 0)]) (by decide) rfl dX1_countStepsTo_77 ?_
      refine J_eq (lv' := [(0, .ref (ka S 1 0)), (1, .int (nI e)), (2, .int (nI Q.length)), (3, .int (nI p)), (4, .int (nI o)), (5, .ref (ka S 17 o)), (6, .int (nI 0))]) rfl rfl rfl ?_
      refine l3_X1_countStepsTo hst0 he (p := p) (o := o) (by omega) (fun I2 Q2 v2 hf2 hb2 hv2 hr2 ho2 hall2 => ?_) ns 0 I Q v (by omega) hfr hb hv hr ho (fun s hs => absurd hs (by omega))
      refine J_iinc (v := (nI (p + 1))) (lv' := [(0, .ref (ka S 1 0)), (1, .int (nI e)), (2, .int (nI Q2.length)), (3, .int (nI (p + 1)))]) 3 rfl (by exact nI_add p 1) (by decide) rfl dX1_countStepsTo_158 ?_
      refine J_goto 46 (by decide) dX1_countStepsTo_161 ?_
      refine J_eq (lv' := [(0, .ref (ka S 1 0)), (1, .int (nI e)), (2, .int (nI Q2.length)), (3, .int (nI (p + 1)))]) rfl rfl rfl ?_
      exact ih (p + 1) I2 Q2 v2 (by omega) hf2 (bInv_next hb2 ho2 hall2) hv2 hr2

set_option maxRecDepth 20000 in
set_option maxHeartbeats 1000000 in
theorem l1_X1_countStepsTo {cy : Nat → ClassId} {S : Nat → Nat → Nat} {I0 : kI} {L : kL} {R : kRf} {LP : List Nat} {ns e : Nat} (hst0 : stF I0 ns) (he : e < ns) (kk : ∀ I : kI, f78 I0 I → (∀ j, j < 10 → I 7 0 j = nI (if j = e then 0 else 1000)) → J yX1_countStepsTo.cls yX1_countStepsTo.name cX1_countStepsTo 7 none 7 0 0 cy (fun r w' => ∃ I' : kI, r = none ∧ w' = wc cy S I' L R LP ∧ f78 I0 I' ∧ ∀ s, s < 10 → I' 7 0 s = nI (dS (cAdj I0) ns e s)) kF 35 [(0, .ref (ka S 1 0)), (1, .int (nI e)), (2, .int (nI 10))] [] (wc cy S I L R LP) 0 0) : ∀ (m i : Nat) (I : kI), i + m = 10 → f78 I0 I → (∀ j, j < i → I 7 0 j = nI (if j = e then 0 else 1000)) → J yX1_countStepsTo.cls yX1_countStepsTo.name cX1_countStepsTo 7 none 7 0 0 cy (fun r w' => ∃ I' : kI, r = none ∧ w' = wc cy S I' L R LP ∧ f78 I0 I' ∧ ∀ s, s < 10 → I' 7 0 s = nI (dS (cAdj I0) ns e s)) kF 2 [(0, .ref (ka S 1 0)), (1, .int (nI e)), (2, .int (nI i))] [] (wc cy S I L R LP) 0 0 := by
  have hns := hst0.2
  intro m
  induction m with
  | zero =>
    intro i I hi hfr hv
    have hi : i = 10 := by omega
    subst hi
    refine J_iload_n 2 rfl dX1_countStepsTo_2 ?_
    refine J_aload_n 0 rfl dX1_countStepsTo_3 ?_
    refine gf_1_17 (n1 _) dX1_countStepsTo_4 ?_
    refine J_alen (v := 10) 0 (n7 _) rfl rfl rfl dX1_countStepsTo_7 ?_
    refine J_icmp_ge 35 (by decide) dX1_countStepsTo_8 (fun c1 => ?_) (fun c1 => ?_)
    rotate_left
    · exfalso
      have Nc1 : ¬ (10 ≤ 10) := fun q => c1 ((nI_leI (a := 10) (b := 10) (by omega) (by omega)).mpr q)
      omega
    have Nc1 : 10 ≤ 10 := (nI_leI (a := 10) (b := 10) (by omega) (by omega)).mp c1
    exact kk I hfr hv
  | succ m ih =>
    intro i I hi hfr hv
    refine J_iload_n 2 rfl dX1_countStepsTo_2 ?_
    refine J_aload_n 0 rfl dX1_countStepsTo_3 ?_
    refine gf_1_17 (n1 _) dX1_countStepsTo_4 ?_
    refine J_alen (v := 10) 0 (n7 _) rfl rfl rfl dX1_countStepsTo_7 ?_
    refine J_icmp_ge 35 (by decide) dX1_countStepsTo_8 (fun c1 => ?_) (fun c1 => ?_)
    · exfalso
      have Nc1 : 10 ≤ i := (nI_leI (a := 10) (b := i) (by omega) (by omega)).mp c1
      omega
    have Nc1 : ¬ (10 ≤ i) := fun q => c1 ((nI_leI (a := 10) (b := i) (by omega) (by omega)).mpr q)
    refine J_aload_n 0 rfl dX1_countStepsTo_11 ?_
    refine gf_1_17 (n1 _) dX1_countStepsTo_12 ?_
    refine J_iload_n 2 rfl dX1_countStepsTo_15 ?_
    refine J_iload_n 2 rfl dX1_countStepsTo_16 ?_
    refine J_iload_n 1 rfl dX1_countStepsTo_17 ?_
    refine J_icmp_ne 25 (by decide) dX1_countStepsTo_18 (fun c2 => ?_) (fun c2 => ?_)
    · have Nc2 : ¬ (i = e) := fun q => c2 ((nI_eqL (a := i) (b := e) (by omega) (by omega)).mpr q)
      refine J_sipush (v := 1000) (by decide) dX1_countStepsTo_25 ?_
      refine J_iast (I' := ku I 7 0 i 1000) (L' := L) (R' := R) i 0 (n7 _) rfl rfl (vp_in_nI (by omega) (by decide)) (nI_toNat (by omega)) (by rw [ku_own]; rfl) (fun k' i' h => ⟨ku_row _ _ h, rfl, rfl⟩) dX1_countStepsTo_28 ?_
      refine J_iinc (v := (nI (i + 1))) (lv' := [(0, .ref (ka S 1 0)), (1, .int (nI e)), (2, .int (nI (i + 1)))]) 2 rfl (by exact nI_add i 1) (by decide) rfl dX1_countStepsTo_29 ?_
      refine J_goto 2 (by decide) dX1_countStepsTo_32 ?_
      refine J_eq (lv' := [(0, .ref (ka S 1 0)), (1, .int (nI e)), (2, .int (nI (i + 1)))]) rfl rfl rfl ?_
      refine ih (i + 1) _ (by omega) (fun k q h1 h2 => ?_) (fun j hj => ?_)
      · rw [ku_row _ _ (fun z => h1 (congrArg Prod.fst z))]; exact hfr k q h1 h2
      · by_cases z : j = i
        · subst z; rw [ku_eq]; first | (rw [if_pos (by omega)]; rfl) | (rw [if_neg (by omega)]; rfl)
        · rw [ku_f _ _ _ _ z]; exact hv j (by omega)
    · have Nc2 : i = e := (nI_eqL (a := i) (b := e) (by omega) (by omega)).mp c2
      refine J_iconst (v := 0) (by decide) dX1_countStepsTo_21 ?_
      refine J_goto 28 (by decide) dX1_countStepsTo_22 ?_
      refine J_iast (I' := ku I 7 0 i 0) (L' := L) (R' := R) i 0 (n7 _) rfl rfl (vp_in_nI (by omega) (by decide)) (nI_toNat (by omega)) (by rw [ku_own]; rfl) (fun k' i' h => ⟨ku_row _ _ h, rfl, rfl⟩) dX1_countStepsTo_28 ?_
      refine J_iinc (v := (nI (i + 1))) (lv' := [(0, .ref (ka S 1 0)), (1, .int (nI e)), (2, .int (nI (i + 1)))]) 2 rfl (by exact nI_add i 1) (by decide) rfl dX1_countStepsTo_29 ?_
      refine J_goto 2 (by decide) dX1_countStepsTo_32 ?_
      refine J_eq (lv' := [(0, .ref (ka S 1 0)), (1, .int (nI e)), (2, .int (nI (i + 1)))]) rfl rfl rfl ?_
      refine ih (i + 1) _ (by omega) (fun k q h1 h2 => ?_) (fun j hj => ?_)
      · rw [ku_row _ _ (fun z => h1 (congrArg Prod.fst z))]; exact hfr k q h1 h2
      · by_cases z : j = i
        · subst z; rw [ku_eq]; first | (rw [if_pos (by omega)]; rfl) | (rw [if_neg (by omega)]; rfl)
        · rw [ku_f _ _ _ _ z]; exact hv j (by omega)

set_option maxRecDepth 20000 in
set_option maxHeartbeats 1000000 in
theorem c_X1_countStepsTo {cy : Nat → ClassId} {S : Nat → Nat → Nat} {I0 : kI} {L : kL} {R : kRf} {LP : List Nat} {ns e : Nat} (hst0 : stF I0 ns) (he : e < ns) : Con yX1_countStepsTo cX1_countStepsTo 7 none 7 0 0 cy [.ref (ka S 1 0), .int (nI e)] (wc cy S I0 L R LP) (fun r w' => ∃ I' : kI, r = none ∧ w' = wc cy S I' L R LP ∧ f78 I0 I' ∧ ∀ s, s < 10 → I' 7 0 s = nI (dS (cAdj I0) ns e s)) kF := by
  have hns := hst0.2
  refine Con_of (by decide +kernel) (Nat.le_of_ble_eq_true rfl) ?_
  refine J_eq (lv' := [(0, .ref (ka S 1 0)), (1, .int (nI e))]) rfl rfl rfl ?_
  refine J_iconst (v := 0) (by decide) dX1_countStepsTo_0 ?_
  refine J_istore_n (lv' := [(0, .ref (ka S 1 0)), (1, .int (nI e)), (2, .int 0)]) (by decide) rfl dX1_countStepsTo_1 ?_
  refine J_eq (lv' := [(0, .ref (ka S 1 0)), (1, .int (nI e)), (2, .int (nI 0))]) rfl rfl rfl ?_
  refine l1_X1_countStepsTo hst0 he (fun I hfr hv => ?_) 10 0 I0 (by omega) (fun _ _ _ _ => rfl) (fun j hj => absurd hj (by omega))
  refine J_aload_n 0 rfl dX1_countStepsTo_35 ?_
  refine gf_1_21 (n1 _) dX1_countStepsTo_36 ?_
  refine J_iconst (v := 0) (by decide) dX1_countStepsTo_39 ?_
  refine J_iload_n 1 rfl dX1_countStepsTo_40 ?_
  refine J_iast (I' := ku I 8 0 0 (nI e)) (L' := L) (R' := R) 0 0 (n8 _) rfl rfl (vp_in_iff.mpr (by decide)) (by decide) (by rw [ku_own]; rfl) (fun k' i' h => ⟨ku_row _ _ h, rfl, rfl⟩) dX1_countStepsTo_41 ?_
  refine J_iconst (v := 1) (by decide) dX1_countStepsTo_42 ?_
  refine J_istore_n (lv' := [(0, .ref (ka S 1 0)), (1, .int (nI e)), (2, .int 1)]) (by decide) rfl dX1_countStepsTo_43 ?_
  refine J_iconst (v := 0) (by decide) dX1_countStepsTo_44 ?_
  refine J_istore_n (lv' := [(0, .ref (ka S 1 0)), (1, .int (nI e)), (2, .int 1), (3, .int 0)]) (by decide) rfl dX1_countStepsTo_45 ?_
  refine J_eq (lv' := [(0, .ref (ka S 1 0)), (1, .int (nI e)), (2, .int (nI [e].length)), (3, .int (nI 0))]) rfl rfl rfl ?_
  refine l2_X1_countStepsTo hst0 he 10 0 _ [e] (fun s => if s = e then 0 else 1000) (by omega) (fun k q h1 h2 => ?_) (bInv_init he) (fun s hs => ?_) (fun j x hx => ?_)
  · rw [ku_row _ _ (fun z => h2 (congrArg Prod.fst z))]; exact hfr k q h1 h2
  · rw [ku_k (k := 8) (k' := 7) _ _ _ _ (by decide)]; exact hv s hs
  · have h9 := (List.getElem?_eq_some_iff.mp hx).1
    have h8 : j = 0 := by simpa using h9
    subst h8
    rw [ku_eq]; simp at hx; rw [hx]

