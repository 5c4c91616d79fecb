/-! the model: ways -/

/-- rounds of the counting: v is sound, complete for k steps; row s up to o -/
def cSnd (adj : Nat → Nat → Bool) (n t : Nat) (v : Nat → Nat) : Prop := ∀ s, s < n → v s ≤ 99 ∧ (v s < 99 → gR adj n t (v s) s = true)
def cCmp (adj : Nat → Nat → Bool) (n t k : Nat) (v : Nat → Nat) (s : Nat) : Prop := ∀ j, j ≤ k → gR adj n t j s = true → v s ≤ j
section CT
variable {adj : Nat → Nat → Bool} {n t : Nat} {v : Nat → Nat}
theorem cSnd_0 : cSnd adj n t (fun s => if s = t then 0 else 99) := by
  intro s hs
  by_cases e : s = t
  · subst e; simp [gR]
  · simp [e]
theorem cCmp_0 (s : Nat) : cCmp adj n t 0 (fun s => if s = t then 0 else 99) s := by
  intro j hj h
  have : j = 0 := by omega
  subst this
  have := gR_0.mp h
  simp [this]
theorem cSnd_up (h : cSnd adj n t v) {s o : Nat} (hs : s < n) (ho : o < n) (ha : adj s o = true) (hlt : v o + 1 < v s) : cSnd adj n t (va_up v s (v o + 1)) := by
  intro x hx
  by_cases e : x = s
  · subst e
    have h1 := h x hs
    have h2 := h o ho
    simp only [va_up, if_pos]
    refine ⟨by omega, fun _ => gR_s.mpr (Or.inr ⟨o, ho, ha, h2.2 (by omega)⟩)⟩
  · simp only [va_up, if_neg e]; exact h x hx
theorem up_le {s x k : Nat} (hlt : k ≤ v s) : va_up v s k x ≤ v x := by
  by_cases e : x = s
  · subst e; simp only [va_up, if_pos]; exact hlt
  · simp only [va_up, if_neg e]; exact Nat.le_refl _
theorem cCmp_up {k s x o : Nat} (h : cCmp adj n t k v x) (hlt : v o + 1 < v s) : cCmp adj n t k (va_up v s (v o + 1)) x := fun j hj hg => Nat.le_trans (up_le (by omega)) (h j hj hg)
/-- after the walk over all o, s is complete for one step more -/
theorem cCmp_s {k s : Nat} (hk : cCmp adj n t k v s) (hall : ∀ o, o < n → cCmp adj n t k v o) (hr : ∀ o, o < n → adj s o = true → v s ≤ v o + 1) : cCmp adj n t (k + 1) v s := by
  intro j hj hg
  cases j with
  | zero => exact hk 0 (by omega) hg
  | succ j =>
    rcases gR_s.mp hg with h | ⟨o, h1, h2, h3⟩
    · exact Nat.le_trans (hk j (by omega) h) (by omega)
    · have a := hr o h1 h2
      have b := hall o h1 j (by omega) h3
      omega
theorem cEnd (hn : n ≤ 10) (ht : t < n) (h : cSnd adj n t v) (hc : ∀ s, s < n → cCmp adj n t (n - 1) v s) {s : Nat} (hs : s < n) : v s = gD adj n t s := by
  symm
  refine gD_eq hn ht hs (h s hs).2 (fun k hk => ?_) (fun z => by have := (h s hs).1; omega)
  by_cases e : k ≤ n - 1
  · exact hc s hs k e hk
  · exact Nat.le_trans (hc s hs (n - 1) (Nat.le_refl _) (gR_enough ht hs hk)) (by omega)
end CT

set_option maxRecDepth 20000 in
set_option maxHeartbeats 1000000 in
theorem l3_X8_counts {cy : Nat → ClassId} {S : Nat → Nat → Nat} {R : kRf} {m : Mu} {cd : Int32} {t : Nat} {k s : Nat} (hn : mN m) (h10 : mS m ≤ 10) (ht : t < mS m) (hs : s < mS m) (kk : ∀ (I : kI) (L : kL) (v : Nat → Nat), MR m cd I L → (∀ s, s < mS m → I 47 0 s = nI (v s)) → cSnd (mAdj m) (mS m) t v → (∀ x, x < mS m → cCmp (mAdj m) (mS m) t k v x) → (∀ x, x < s + 1 → cCmp (mAdj m) (mS m) t (k + 1) v x) → J yX8_counts.cls yX8_counts.name cX8_counts 5 none 2 0 0 cy (fun r w' => r = none ∧ ∃ (I' : kI) (L' : kL), w' = wm cy S I' L' R ∧ MR m cd I' L' ∧ ∀ s, s < mS m → I' 47 0 s = nI (gD (mAdj m) (mS m) t s)) kF 114 [(0, .ref (ka S 30 0)), (1, .int (nI t)), (2, .int (nI (k + 1))), (3, .int (nI s))] [] (wm cy S I L R) 0 0) : ∀ (j o : Nat) (I : kI) (L : kL) (v : Nat → Nat), o + j = mS m → MR m cd I L → (∀ s, s < mS m → I 47 0 s = nI (v s)) → cSnd (mAdj m) (mS m) t v → (∀ x, x < mS m → cCmp (mAdj m) (mS m) t k v x) → (∀ x, x < s → cCmp (mAdj m) (mS m) t (k + 1) v x) → (∀ x, x < o → mAdj m s x = true → v s ≤ v x + 1) → J yX8_counts.cls yX8_counts.name cX8_counts 5 none 2 0 0 cy (fun r w' => r = none ∧ ∃ (I' : kI) (L' : kL), w' = wm cy S I' L' R ∧ MR m cd I' L' ∧ ∀ s, s < mS m → I' 47 0 s = nI (gD (mAdj m) (mS m) t s)) kF 56 [(0, .ref (ka S 30 0)), (1, .int (nI t)), (2, .int (nI (k + 1))), (3, .int (nI s)), (4, .int (nI o))] [] (wm cy S I L R) 0 0 := by
  intro j
  induction j with
  | zero =>
    intro o I L v ho hM hv h1 h2 h3 h4
    have ho : o = mS m := by omega
    subst ho
    refine J_iload 4 rfl dX8_counts_56 ?_
    refine J_aload_n 0 rfl dX8_counts_58 ?_
    refine gf_8_88 n30 dX8_counts_59 ?_
    refine J_topeq (nI (mS m)) ((hM.1 30 0 rfl).trans (by exact hn.1)) ?_
    refine J_icmp_ge 114 (by decide) dX8_counts_62 (fun c1 => ?_) (fun c1 => ?_)
    rotate_left
    · exfalso
      have Nc1 : ¬ ((mS m) ≤ (mS m)) := fun q => c1 ((nI_leI (a := (mS m)) (b := (mS m)) (by omega) (by omega)).mpr q)
      omega
    have Nc1 : (mS m) ≤ (mS m) := (nI_leI (a := (mS m)) (b := (mS m)) (by omega) (by omega)).mp c1
    refine J_sub (lv' := [(0, .ref (ka S 30 0)), (1, .int (nI t)), (2, .int (nI (k + 1))), (3, .int (nI s))]) [0, 1, 2, 3] rfl ?_
    exact kk I L v hM hv h1 h2 (fun x hx => by
      by_cases e : x = s
      · subst e; exact cCmp_s (h2 x hs) h2 h4
      · exact h3 x (by omega))
  | succ j ih =>
    intro o I L v ho hM hv h1 h2 h3 h4
    have hso := (h1 o (by omega)).1
    have hss := (h1 s hs).1
    by_cases ha : mAdj m s o = true
    · have hne : o ≠ s := by
        intro z
        subst z
        simp [mAdj] at ha
      by_cases hlt : v o + 1 < v s
      · have hlt2 : nI (v o + 1) < nI (v s) := (nI_ltI (by omega) (by omega)).mpr hlt
        refine J_iload 4 rfl dX8_counts_56 ?_
        refine J_aload_n 0 rfl dX8_counts_58 ?_
        refine gf_8_88 n30 dX8_counts_59 ?_
        refine J_topeq (nI (mS m)) ((hM.1 30 0 rfl).trans (by exact hn.1)) ?_
        refine J_icmp_ge 114 (by decide) dX8_counts_62 (fun c1 => ?_) (fun c1 => ?_)
        · exfalso
          have Nc1 : (mS m) ≤ o := (nI_leI (a := (mS m)) (b := o) (by omega) (by omega)).mp c1
          omega
        have Nc1 : ¬ ((mS m) ≤ o) := fun q => c1 ((nI_leI (a := (mS m)) (b := o) (by omega) (by omega)).mpr q)
        refine J_aload_n 0 rfl dX8_counts_65 ?_
        refine J_iload_n 3 rfl dX8_counts_66 ?_
        refine J_iload 4 rfl dX8_counts_67 ?_
        refine cv_8_99 (cells' := 0) (slots' := 0) dX8_counts_69 (c_X8_isHeard (a := s) (b := o) hM (by omega) (by omega)) n30 ⟨by decide, by decide⟩ rfl rfl (by decide) (by decide) (Nat.le_of_ble_eq_true rfl) (fun _ _ r2 => ?_) (fun _ _ h => h.elim)
        obtain ⟨rfl, rfl⟩ := r2
        refine J_eq (st' := [.int (kb (mAdj m s o))]) rfl rfl rfl ?_
        refine J_topeq 1 (by rw [ha]; rfl) ?_
        refine J_if_eq 108 (by decide) dX8_counts_72 (fun c3 => ?_) (fun c3 => ?_)
        · exact absurd c3 (by decide)
        refine J_aload_n 0 rfl dX8_counts_75 ?_
        refine gf_8_29 n30 dX8_counts_76 ?_
        refine J_iload 4 rfl dX8_counts_79 ?_
        refine J_iald o 0 n47 rfl rfl (vp_in_nI (by omega) (by decide)) (nI_toNat (by omega)) dX8_counts_81 ?_
        refine J_topeq (nI (v o)) (by exact hv o (by omega)) ?_
        refine J_iconst (v := 1) (by decide) dX8_counts_82 ?_
        refine J_iadd dX8_counts_83 ?_
        refine J_topeq (nI (v o + 1)) (by exact nI_add (v o) 1) ?_
        refine J_aload_n 0 rfl dX8_counts_84 ?_
        refine gf_8_29 n30 dX8_counts_85 ?_
        refine J_iload_n 3 rfl dX8_counts_88 ?_
        refine J_iald s 0 n47 rfl rfl (vp_in_nI (by omega) (by decide)) (nI_toNat (by omega)) dX8_counts_89 ?_
        refine J_topeq (nI (v s)) (by exact hv s (by omega)) ?_
        refine J_icmp_ge 108 (by decide) dX8_counts_90 (fun c4 => ?_) (fun c4 => ?_)
        · exfalso
          have Nc4 : (v s) ≤ (v o + 1) := (nI_leI (a := (v s)) (b := (v o + 1)) (by omega) (by omega)).mp c4
          omega
        have Nc4 : ¬ ((v s) ≤ (v o + 1)) := fun q => c4 ((nI_leI (a := (v s)) (b := (v o + 1)) (by omega) (by omega)).mpr q)
        refine J_aload_n 0 rfl dX8_counts_93 ?_
        refine gf_8_29 n30 dX8_counts_94 ?_
        refine J_iload_n 3 rfl dX8_counts_97 ?_
        refine J_aload_n 0 rfl dX8_counts_98 ?_
        refine gf_8_29 n30 dX8_counts_99 ?_
        refine J_iload 4 rfl dX8_counts_102 ?_
        refine J_iald o 0 n47 rfl rfl (vp_in_nI (by omega) (by decide)) (nI_toNat (by omega)) dX8_counts_104 ?_
        refine J_topeq (nI (v o)) (by exact hv o (by omega)) ?_
        refine J_iconst (v := 1) (by decide) dX8_counts_105 ?_
        refine J_iadd dX8_counts_106 ?_
        refine J_topeq (nI (v o + 1)) (by exact nI_add (v o) 1) ?_
        refine J_iast (I' := ku I 47 0 s (nI (v o + 1))) (L' := L) (R' := R) s 0 n47 rfl rfl (vp_in_nI (by omega) (by decide)) (nI_toNat (by omega)) (by rw [ku_own]; rfl) (fun k' i' h => ⟨ku_row _ _ h, rfl, rfl⟩) dX8_counts_107 ?_
        have hM5 := MR_sc (k := 47) (j := s) (v := (nI (v o + 1))) hM rfl (pair_ne (by decide))
        refine J_iinc (v := (nI (o + 1))) (lv' := [(0, .ref (ka S 30 0)), (1, .int (nI t)), (2, .int (nI (k + 1))), (3, .int (nI s)), (4, .int (nI (o + 1)))]) 4 rfl (by exact nI_add o 1) (by decide) rfl dX8_counts_108 ?_
        refine J_goto 56 (by decide) dX8_counts_111 ?_
        refine J_sub (lv' := [(0, .ref (ka S 30 0)), (1, .int (nI t)), (2, .int (nI (k + 1))), (3, .int (nI s)), (4, .int (nI (o + 1)))]) [0, 1, 2, 3, 4] rfl ?_
        refine ih (o + 1) _ _ (va_up v s (v o + 1)) (by omega) hM5 (fun x hx => ?_) (cSnd_up h1 hs (by omega) ha hlt) (fun x hx => cCmp_up (h2 x hx) hlt) (fun x hx => cCmp_up (h3 x hx) hlt) (fun x hx hax => ?_)
        · by_cases e : x = s
          · subst e; rw [ku_eq]; simp [va_up]
          · rw [ku_f _ _ _ _ e, hv x hx]; simp [va_up, e]
        · have hxs : x ≠ s := by
            intro z
            subst z
            simp [mAdj] at hax
          have e1 : va_up v s (v o + 1) x = v x := by simp [va_up, hxs]
          have e2 : va_up v s (v o + 1) s = v o + 1 := by simp [va_up]
          rw [e1, e2]
          by_cases e : x = o
          · subst e; omega
          · have := h4 x (by omega) hax; omega
      · skip
        refine J_iload 4 rfl dX8_counts_56 ?_
        refine J_aload_n 0 rfl dX8_counts_58 ?_
        refine gf_8_88 n30 dX8_counts_59 ?_
        refine J_topeq (nI (mS m)) ((hM.1 30 0 rfl).trans (by exact hn.1)) ?_
        refine J_icmp_ge 114 (by decide) dX8_counts_62 (fun c1 => ?_) (fun c1 => ?_)
        · exfalso
          have Nc1 : (mS m) ≤ o := (nI_leI (a := (mS m)) (b := o) (by omega) (by omega)).mp c1
          omega
        have Nc1 : ¬ ((mS m) ≤ o) := fun q => c1 ((nI_leI (a := (mS m)) (b := o) (by omega) (by omega)).mpr q)
        refine J_aload_n 0 rfl dX8_counts_65 ?_
        refine J_iload_n 3 rfl dX8_counts_66 ?_
        refine J_iload 4 rfl dX8_counts_67 ?_
        refine cv_8_99 (cells' := 0) (slots' := 0) dX8_counts_69 (c_X8_isHeard (a := s) (b := o) hM (by omega) (by omega)) n30 ⟨by decide, by decide⟩ rfl rfl (by decide) (by decide) (Nat.le_of_ble_eq_true rfl) (fun _ _ r2 => ?_) (fun _ _ h => h.elim)
        obtain ⟨rfl, rfl⟩ := r2
        refine J_eq (st' := [.int (kb (mAdj m s o))]) rfl rfl rfl ?_
        refine J_topeq 1 (by rw [ha]; rfl) ?_
        refine J_if_eq 108 (by decide) dX8_counts_72 (fun c3 => ?_) (fun c3 => ?_)
        · exact absurd c3 (by decide)
        refine J_aload_n 0 rfl dX8_counts_75 ?_
        refine gf_8_29 n30 dX8_counts_76 ?_
        refine J_iload 4 rfl dX8_counts_79 ?_
        refine J_iald o 0 n47 rfl rfl (vp_in_nI (by omega) (by decide)) (nI_toNat (by omega)) dX8_counts_81 ?_
        refine J_topeq (nI (v o)) (by exact hv o (by omega)) ?_
        refine J_iconst (v := 1) (by decide) dX8_counts_82 ?_
        refine J_iadd dX8_counts_83 ?_
        refine J_topeq (nI (v o + 1)) (by exact nI_add (v o) 1) ?_
        refine J_aload_n 0 rfl dX8_counts_84 ?_
        refine gf_8_29 n30 dX8_counts_85 ?_
        refine J_iload_n 3 rfl dX8_counts_88 ?_
        refine J_iald s 0 n47 rfl rfl (vp_in_nI (by omega) (by decide)) (nI_toNat (by omega)) dX8_counts_89 ?_
        refine J_topeq (nI (v s)) (by exact hv s (by omega)) ?_
        refine J_icmp_ge 108 (by decide) dX8_counts_90 (fun c4 => ?_) (fun c4 => ?_)
        rotate_left
        · exfalso
          have Nc4 : ¬ ((v s) ≤ (v o + 1)) := fun q => c4 ((nI_leI (a := (v s)) (b := (v o + 1)) (by omega) (by omega)).mpr q)
          omega
        have Nc4 : (v s) ≤ (v o + 1) := (nI_leI (a := (v s)) (b := (v o + 1)) (by omega) (by omega)).mp c4
        refine J_iinc (v := (nI (o + 1))) (lv' := [(0, .ref (ka S 30 0)), (1, .int (nI t)), (2, .int (nI (k + 1))), (3, .int (nI s)), (4, .int (nI (o + 1)))]) 4 rfl (by exact nI_add o 1) (by decide) rfl dX8_counts_108 ?_
        refine J_goto 56 (by decide) dX8_counts_111 ?_
        refine J_sub (lv' := [(0, .ref (ka S 30 0)), (1, .int (nI t)), (2, .int (nI (k + 1))), (3, .int (nI s)), (4, .int (nI (o + 1)))]) [0, 1, 2, 3, 4] rfl ?_
        refine ih (o + 1) _ _ v (by omega) hM hv h1 h2 h3 (fun x hx hax => ?_)
        by_cases e : x = o
        · subst e; omega
        · exact h4 x (by omega) hax
    · have ha : mAdj m s o = false := by simpa using ha
      refine J_iload 4 rfl dX8_counts_56 ?_
      refine J_aload_n 0 rfl dX8_counts_58 ?_
      refine gf_8_88 n30 dX8_counts_59 ?_
      refine J_topeq (nI (mS m)) ((hM.1 30 0 rfl).trans (by exact hn.1)) ?_
      refine J_icmp_ge 114 (by decide) dX8_counts_62 (fun c1 => ?_) (fun c1 => ?_)
      · exfalso
        have Nc1 : (mS m) ≤ o := (nI_leI (a := (mS m)) (b := o) (by omega) (by omega)).mp c1
        omega
      have Nc1 : ¬ ((mS m) ≤ o) := fun q => c1 ((nI_leI (a := (mS m)) (b := o) (by omega) (by omega)).mpr q)
      refine J_aload_n 0 rfl dX8_counts_65 ?_
      refine J_iload_n 3 rfl dX8_counts_66 ?_
      refine J_iload 4 rfl dX8_counts_67 ?_
      refine cv_8_99 (cells' := 0) (slots' := 0) dX8_counts_69 (c_X8_isHeard (a := s) (b := o) hM (by omega) (by omega)) n30 ⟨by decide, by decide⟩ rfl rfl (by decide) (by decide) (Nat.le_of_ble_eq_true rfl) (fun _ _ r2 => ?_) (fun _ _ h => h.elim)
      obtain ⟨rfl, rfl⟩ := r2
      refine J_eq (st' := [.int (kb (mAdj m s o))]) rfl rfl rfl ?_
      refine J_topeq 0 (by rw [ha]; rfl) ?_
      refine J_if_eq 108 (by decide) dX8_counts_72 (fun c3 => ?_) (fun c3 => ?_)
      rotate_left
      · exact absurd (by decide) c3
      refine J_iinc (v := (nI (o + 1))) (lv' := [(0, .ref (ka S 30 0)), (1, .int (nI t)), (2, .int (nI (k + 1))), (3, .int (nI s)), (4, .int (nI (o + 1)))]) 4 rfl (by exact nI_add o 1) (by decide) rfl dX8_counts_108 ?_
      refine J_goto 56 (by decide) dX8_counts_111 ?_
      refine J_sub (lv' := [(0, .ref (ka S 30 0)), (1, .int (nI t)), (2, .int (nI (k + 1))), (3, .int (nI s)), (4, .int (nI (o + 1)))]) [0, 1, 2, 3, 4] rfl ?_
      refine ih (o + 1) _ _ v (by omega) hM hv h1 h2 h3 (fun x hx hax => ?_)
      by_cases e : x = o
      · subst e; rw [ha] at hax; cases hax
      · exact h4 x (by omega) hax

set_option maxRecDepth 20000 in
set_option maxHeartbeats 1000000 in
theorem l2_X8_counts {cy : Nat → ClassId} {S : Nat → Nat → Nat} {R : kRf} {m : Mu} {cd : Int32} {t : Nat} {k : Nat} (hn : mN m) (h10 : mS m ≤ 10) (ht : t < mS m) (kk : ∀ (I : kI) (L : kL) (v : Nat → Nat), MR m cd I L → (∀ s, s < mS m → I 47 0 s = nI (v s)) → cSnd (mAdj m) (mS m) t v → (∀ x, x < mS m → cCmp (mAdj m) (mS m) t (k + 1) v x) → J yX8_counts.cls yX8_counts.name cX8_counts 5 none 2 0 0 cy (fun r w' => r = none ∧ ∃ (I' : kI) (L' : kL), w' = wm cy S I' L' R ∧ MR m cd I' L' ∧ ∀ s, s < mS m → I' 47 0 s = nI (gD (mAdj m) (mS m) t s)) kF 120 [(0, .ref (ka S 30 0)), (1, .int (nI t)), (2, .int (nI (k + 1)))] [] (wm cy S I L R) 0 0) : ∀ (j s : Nat) (I : kI) (L : kL) (v : Nat → Nat), s + j = mS m → MR m cd I L → (∀ s, s < mS m → I 47 0 s = nI (v s)) → cSnd (mAdj m) (mS m) t v → (∀ x, x < mS m → cCmp (mAdj m) (mS m) t k v x) → (∀ x, x < s → cCmp (mAdj m) (mS m) t (k + 1) v x) → J yX8_counts.cls yX8_counts.name cX8_counts 5 none 2 0 0 cy (fun r w' => r = none ∧ ∃ (I' : kI) (L' : kL), w' = wm cy S I' L' R ∧ MR m cd I' L' ∧ ∀ s, s < mS m → I' 47 0 s = nI (gD (mAdj m) (mS m) t s)) kF 45 [(0, .ref (ka S 30 0)), (1, .int (nI t)), (2, .int (nI (k + 1))), (3, .int (nI s))] [] (wm cy S I L R) 0 0 := by
  intro j
  induction j with
  | zero =>
    intro s I L v hs hM hv h1 h2 h3
    have hs : s = mS m := by omega
    subst hs
    refine J_iload_n 3 rfl dX8_counts_45 ?_
    refine J_aload_n 0 rfl dX8_counts_46 ?_
    refine gf_8_88 n30 dX8_counts_47 ?_
    refine J_topeq (nI (mS m)) ((hM.1 30 0 rfl).trans (by exact hn.1)) ?_
    refine J_icmp_ge 120 (by decide) dX8_counts_50 (fun c1 => ?_) (fun c1 => ?_)
    rotate_left
    · exfalso
      have Nc1 : ¬ ((mS m) ≤ (mS m)) := fun q => c1 ((nI_leI (a := (mS m)) (b := (mS m)) (by omega) (by omega)).mpr q)
      omega
    have Nc1 : (mS m) ≤ (mS m) := (nI_leI (a := (mS m)) (b := (mS m)) (by omega) (by omega)).mp c1
    refine J_sub (lv' := [(0, .ref (ka S 30 0)), (1, .int (nI t)), (2, .int (nI (k + 1)))]) [0, 1, 2] rfl ?_
    exact kk I L v hM hv h1 h3
  | succ j ih =>
    intro s I L v hs hM hv h1 h2 h3
    refine J_iload_n 3 rfl dX8_counts_45 ?_
    refine J_aload_n 0 rfl dX8_counts_46 ?_
    refine gf_8_88 n30 dX8_counts_47 ?_
    refine J_topeq (nI (mS m)) ((hM.1 30 0 rfl).trans (by exact hn.1)) ?_
    refine J_icmp_ge 120 (by decide) dX8_counts_50 (fun c1 => ?_) (fun c1 => ?_)
    · exfalso
      have Nc1 : (mS m) ≤ s := (nI_leI (a := (mS m)) (b := s) (by omega) (by omega)).mp c1
      omega
    have Nc1 : ¬ ((mS m) ≤ s) := fun q => c1 ((nI_leI (a := (mS m)) (b := s) (by omega) (by omega)).mpr q)
    refine J_iconst (v := 0) (by decide) dX8_counts_53 ?_
    refine J_istore (lv' := [(0, .ref (ka S 30 0)), (1, .int (nI t)), (2, .int (nI (k + 1))), (3, .int (nI s)), (4, .int 0)]) (by decide) rfl dX8_counts_54 ?_
    refine J_eq (lv' := [(0, .ref (ka S 30 0)), (1, .int (nI t)), (2, .int (nI (k + 1))), (3, .int (nI s)), (4, .int (nI 0))]) rfl rfl rfl ?_
    refine l3_X8_counts hn h10 ht (s := s) (by omega) (fun I1 L1 v1 hM1 hv1 g1 g2 g3 => ?_) (mS m) 0 I L v (by omega) hM hv h1 h2 h3 (fun x hx => absurd hx (by omega))
    refine J_iinc (v := (nI (s + 1))) (lv' := [(0, .ref (ka S 30 0)), (1, .int (nI t)), (2, .int (nI (k + 1))), (3, .int (nI (s + 1)))]) 3 rfl (by exact nI_add s 1) (by decide) rfl dX8_counts_114 ?_
    refine J_goto 45 (by decide) dX8_counts_117 ?_
    exact ih (s + 1) I1 L1 v1 (by omega) hM1 hv1 g1 g2 g3

set_option maxRecDepth 20000 in
set_option maxHeartbeats 1000000 in
theorem l1_X8_counts {cy : Nat → ClassId} {S : Nat → Nat → Nat} {R : kRf} {m : Mu} {cd : Int32} {t : Nat} (hn : mN m) (h10 : mS m ≤ 10) (ht : t < mS m) : ∀ (j k : Nat) (I : kI) (L : kL) (v : Nat → Nat), k + 1 + j = mS m → MR m cd I L → (∀ s, s < mS m → I 47 0 s = nI (v s)) → cSnd (mAdj m) (mS m) t v → (∀ x, x < mS m → cCmp (mAdj m) (mS m) t k v x) → J yX8_counts.cls yX8_counts.name cX8_counts 5 none 2 0 0 cy (fun r w' => r = none ∧ ∃ (I' : kI) (L' : kL), w' = wm cy S I' L' R ∧ MR m cd I' L' ∧ ∀ s, s < mS m → I' 47 0 s = nI (gD (mAdj m) (mS m) t s)) kF 35 [(0, .ref (ka S 30 0)), (1, .int (nI t)), (2, .int (nI (k + 1)))] [] (wm cy S I L R) 0 0 := by
  intro j
  induction j with
  | zero =>
    intro k I L v hk hM hv h1 h2
    have hk' : k = mS m - 1 := by omega
    refine J_iload_n 2 rfl dX8_counts_35 ?_
    refine J_aload_n 0 rfl dX8_counts_36 ?_
    refine gf_8_88 n30 dX8_counts_37 ?_
    refine J_topeq (nI (mS m)) ((hM.1 30 0 rfl).trans (by exact hn.1)) ?_
    refine J_icmp_ge 126 (by decide) dX8_counts_40 (fun c1 => ?_) (fun c1 => ?_)
    rotate_left
    · exfalso
      have Nc1 : ¬ ((mS m) ≤ (k + 1)) := fun q => c1 ((nI_leI (a := (mS m)) (b := (k + 1)) (by omega) (by omega)).mpr q)
      omega
    have Nc1 : (mS m) ≤ (k + 1) := (nI_leI (a := (mS m)) (b := (k + 1)) (by omega) (by omega)).mp c1
    exact J_return rfl dX8_counts_126 (⟨rfl, _, _, rfl, hM, fun s hs => by rw [hv s hs, cEnd h10 ht h1 (hk' ▸ h2) hs]⟩) (by omega) (by omega)
  | succ j ih =>
    intro k I L v hk hM hv h1 h2
    refine J_iload_n 2 rfl dX8_counts_35 ?_
    refine J_aload_n 0 rfl dX8_counts_36 ?_
    refine gf_8_88 n30 dX8_counts_37 ?_
    refine J_topeq (nI (mS m)) ((hM.1 30 0 rfl).trans (by exact hn.1)) ?_
    refine J_icmp_ge 126 (by decide) dX8_counts_40 (fun c1 => ?_) (fun c1 => ?_)
    · exfalso
      have Nc1 : (mS m) ≤ (k + 1) := (nI_leI (a := (mS m)) (b := (k + 1)) (by omega) (by omega)).mp c1
      omega
    have Nc1 : ¬ ((mS m) ≤ (k + 1)) := fun q => c1 ((nI_leI (a := (mS m)) (b := (k + 1)) (by omega) (by omega)).mpr q)
    refine J_iconst (v := 0) (by decide) dX8_counts_43 ?_
    refine J_istore_n (lv' := [(0, .ref (ka S 30 0)), (1, .int (nI t)), (2, .int (nI (k + 1))), (3, .int 0)]) (by decide) rfl dX8_counts_44 ?_
    refine J_eq (lv' := [(0, .ref (ka S 30 0)), (1, .int (nI t)), (2, .int (nI (k + 1))), (3, .int (nI 0))]) rfl rfl rfl ?_
    refine l2_X8_counts hn h10 ht (fun I1 L1 v1 hM1 hv1 g1 g2 => ?_) (mS m) 0 I L v (by omega) hM hv h1 h2 (fun x hx => absurd hx (by omega))
    refine J_iinc (v := (nI (k + 1 + 1))) (lv' := [(0, .ref (ka S 30 0)), (1, .int (nI t)), (2, .int (nI (k + 1 + 1)))]) 2 rfl (by exact nI_add (k + 1) 1) (by decide) rfl dX8_counts_120 ?_
    refine J_goto 35 (by decide) dX8_counts_123 ?_
    refine J_eq (lv' := [(0, .ref (ka S 30 0)), (1, .int (nI t)), (2, .int (nI (k + 1 + 1)))]) rfl rfl rfl ?_
    exact ih (k + 1) I1 L1 v1 (by omega) hM1 hv1 g1 g2

set_option maxRecDepth 20000 in
set_option maxHeartbeats 1000000 in
theorem l0_X8_counts {cy : Nat → ClassId} {S : Nat → Nat → Nat} {R : kRf} {m : Mu} {cd : Int32} {t : Nat} (hn : mN m) (h10 : mS m ≤ 10) (ht : t < mS m) : ∀ (j s : Nat) (I : kI) (L : kL), s + j = mS m → MR m cd I L → (∀ x, x < s → I 47 0 x = nI (if x = t then 0 else 99)) → J yX8_counts.cls yX8_counts.name cX8_counts 5 none 2 0 0 cy (fun r w' => r = none ∧ ∃ (I' : kI) (L' : kL), w' = wm cy S I' L' R ∧ MR m cd I' L' ∧ ∀ s, s < mS m → I' 47 0 s = nI (gD (mAdj m) (mS m) t s)) kF 2 [(0, .ref (ka S 30 0)), (1, .int (nI t)), (2, .int (nI s))] [] (wm cy S I L R) 0 0 := by
  intro j
  induction j with
  | zero =>
    intro s I L hs hM hv
    have hs : s = mS m := by omega
    subst hs
    refine J_iload_n 2 rfl dX8_counts_2 ?_
    refine J_aload_n 0 rfl dX8_counts_3 ?_
    refine gf_8_88 n30 dX8_counts_4 ?_
    refine J_topeq (nI (mS m)) ((hM.1 30 0 rfl).trans (by exact hn.1)) ?_
    refine J_icmp_ge 33 (by decide) dX8_counts_7 (fun c1 => ?_) (fun c1 => ?_)
    rotate_left
    · exfalso
      have Nc1 : ¬ ((mS m) ≤ (mS m)) := fun q => c1 ((nI_leI (a := (mS m)) (b := (mS m)) (by omega) (by omega)).mpr q)
      omega
    have Nc1 : (mS m) ≤ (mS m) := (nI_leI (a := (mS m)) (b := (mS m)) (by omega) (by omega)).mp c1
    refine J_iconst (v := 1) (by decide) dX8_counts_33 ?_
    refine J_istore_n (lv' := [(0, .ref (ka S 30 0)), (1, .int (nI t)), (2, .int 1)]) (by decide) rfl dX8_counts_34 ?_
    refine J_eq (lv' := [(0, .ref (ka S 30 0)), (1, .int (nI t)), (2, .int (nI (0 + 1)))]) rfl rfl rfl ?_
    exact l1_X8_counts hn h10 ht (mS m - 1) 0 I L (fun s => if s = t then 0 else 99) (by omega) hM hv cSnd_0 (fun x _ => cCmp_0 x)
  | succ j ih =>
    intro s I L hs hM hv
    by_cases e : s = t
    · subst e
      refine J_iload_n 2 rfl dX8_counts_2 ?_
      refine J_aload_n 0 rfl dX8_counts_3 ?_
      refine gf_8_88 n30 dX8_counts_4 ?_
      refine J_topeq (nI (mS m)) ((hM.1 30 0 rfl).trans (by exact hn.1)) ?_
      refine J_icmp_ge 33 (by decide) dX8_counts_7 (fun c1 => ?_) (fun c1 => ?_)
      · exfalso
        have Nc1 : (mS m) ≤ s := (nI_leI (a := (mS m)) (b := s) (by omega) (by omega)).mp c1
        omega
      have Nc1 : ¬ ((mS m) ≤ s) := fun q => c1 ((nI_leI (a := (mS m)) (b := s) (by omega) (by omega)).mpr q)
      refine J_aload_n 0 rfl dX8_counts_10 ?_
      refine gf_8_29 n30 dX8_counts_11 ?_
      refine J_iload_n 2 rfl dX8_counts_14 ?_
      refine J_iload_n 2 rfl dX8_counts_15 ?_
      refine J_iload_n 1 rfl dX8_counts_16 ?_
      refine J_icmp_ne 24 (by decide) dX8_counts_17 (fun c2 => ?_) (fun c2 => ?_)
      · exfalso
        have Nc2 : ¬ (s = s) := fun q => c2 ((nI_eqL (a := s) (b := s) (by omega) (by omega)).mpr q)
        omega
      have Nc2 : s = s := (nI_eqL (a := s) (b := s) (by omega) (by omega)).mp c2
      refine J_iconst (v := 0) (by decide) dX8_counts_20 ?_
      refine J_goto 26 (by decide) dX8_counts_21 ?_
      refine J_iast (I' := ku I 47 0 s 0) (L' := L) (R' := R) s 0 n47 rfl rfl (vp_in_nI (by omega) (by decide)) (nI_toNat (by omega)) (by rw [ku_own]; rfl) (fun k' i' h => ⟨ku_row _ _ h, rfl, rfl⟩) dX8_counts_26 ?_
      have hM3 := MR_sc (k := 47) (j := s) (v := 0) hM rfl (pair_ne (by decide))
      refine J_iinc (v := (nI (s + 1))) (lv' := [(0, .ref (ka S 30 0)), (1, .int (nI s)), (2, .int (nI (s + 1)))]) 2 rfl (by exact nI_add s 1) (by decide) rfl dX8_counts_27 ?_
      refine J_goto 2 (by decide) dX8_counts_30 ?_
      refine ih (s + 1) _ _ (by omega) hM3 (fun x hx => ?_)
      by_cases f : x = s
      · subst f; rw [ku_eq]; simp; rfl
      · rw [ku_f _ _ _ _ f]; exact hv x (by omega)
    · skip
      refine J_iload_n 2 rfl dX8_counts_2 ?_
      refine J_aload_n 0 rfl dX8_counts_3 ?_
      refine gf_8_88 n30 dX8_counts_4 ?_
      refine J_topeq (nI (mS m)) ((hM.1 30 0 rfl).trans (by exact hn.1)) ?_
      refine J_icmp_ge 33 (by decide) dX8_counts_7 (fun c1 => ?_) (fun c1 => ?_)
      · exfalso
        have Nc1 : (mS m) ≤ s := (nI_leI (a := (mS m)) (b := s) (by omega) (by omega)).mp c1
        omega
      have Nc1 : ¬ ((mS m) ≤ s) := fun q => c1 ((nI_leI (a := (mS m)) (b := s) (by omega) (by omega)).mpr q)
      refine J_aload_n 0 rfl dX8_counts_10 ?_
      refine gf_8_29 n30 dX8_counts_11 ?_
      refine J_iload_n 2 rfl dX8_counts_14 ?_
      refine J_iload_n 2 rfl dX8_counts_15 ?_
      refine J_iload_n 1 rfl dX8_counts_16 ?_
      refine J_icmp_ne 24 (by decide) dX8_counts_17 (fun c2 => ?_) (fun c2 => ?_)
      rotate_left
      · exfalso
        have Nc2 : s = t := (nI_eqL (a := s) (b := t) (by omega) (by omega)).mp c2
        omega
      have Nc2 : ¬ (s = t) := fun q => c2 ((nI_eqL (a := s) (b := t) (by omega) (by omega)).mpr q)
      refine J_bipush (v := 99) (by decide) dX8_counts_24 ?_
      refine J_iast (I' := ku I 47 0 s 99) (L' := L) (R' := R) s 0 n47 rfl rfl (vp_in_nI (by omega) (by decide)) (nI_toNat (by omega)) (by rw [ku_own]; rfl) (fun k' i' h => ⟨ku_row _ _ h, rfl, rfl⟩) dX8_counts_26 ?_
      have hM3 := MR_sc (k := 47) (j := s) (v := 99) hM rfl (pair_ne (by decide))
      refine J_iinc (v := (nI (s + 1))) (lv' := [(0, .ref (ka S 30 0)), (1, .int (nI t)), (2, .int (nI (s + 1)))]) 2 rfl (by exact nI_add s 1) (by decide) rfl dX8_counts_27 ?_
      refine J_goto 2 (by decide) dX8_counts_30 ?_
      refine ih (s + 1) _ _ (by omega) hM3 (fun x hx => ?_)
      by_cases f : x = s
      · subst f; rw [ku_eq]; simp [e]; rfl
      · rw [ku_f _ _ _ _ f]; exact hv x (by omega)

set_option maxRecDepth 20000 in
set_option maxHeartbeats 1000000 in
theorem c_X8_counts {cy : Nat → ClassId} {S : Nat → Nat → Nat} {I : kI} {L : kL} {R : kRf} {m : Mu} {cd : Int32} {t : Nat} (hM : MR m cd I L) (hn : mN m) (h10 : mS m ≤ 10) (ht : t < mS m) : Con yX8_counts cX8_counts 5 none 2 0 0 cy [.ref (ka S 30 0), .int (nI t)] (wm cy S I L R) (fun r w' => r = none ∧ ∃ (I' : kI) (L' : kL), w' = wm cy S I' L' R ∧ MR m cd I' L' ∧ ∀ s, s < mS m → I' 47 0 s = nI (gD (mAdj m) (mS m) t s)) kF := by
  refine Con_of (by decide +kernel) (Nat.le_of_ble_eq_true rfl) ?_
  refine J_eq (lv' := [(0, .ref (ka S 30 0)), (1, .int (nI t))]) rfl rfl rfl ?_
  refine J_iconst (v := 0) (by decide) dX8_counts_0 ?_
  refine J_istore_n (lv' := [(0, .ref (ka S 30 0)), (1, .int (nI t)), (2, .int 0)]) (by decide) rfl dX8_counts_1 ?_
  refine J_eq (lv' := [(0, .ref (ka S 30 0)), (1, .int (nI t)), (2, .int (nI 0))]) rfl rfl rfl ?_
  exact l0_X8_counts hn h10 ht (mS m) 0 I L (by omega) hM (fun x hx => absurd hx (by omega))

