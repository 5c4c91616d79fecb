/-! the line by counting -/
section CN
variable {m : Mu} {I : kI} {L : kL} {R : kRf} {LP : List Nat} {rc : Nat → Nat} {ln qu : List Nat} {lg B : Nat}
theorem cnt_at (hL : relL m I R rc ln qu) {j c : Nat} (h : ln[j]? = some c) : ln.countP (fun d => decide (key m d < key m c)) = j := by
  have hs := hL.2.2.2.2.2.2.2.1
  have h1 := srt_cnt (q := key m c) hs j c h
  have h2 : ¬ j < ln.countP (fun d => decide (key m d < key m c)) := fun z => by have := h1.mp z; omega
  rcases Nat.eq_zero_or_pos j with q | q
  · omega
  · have hj := (List.getElem?_eq_some_iff.mp h)
    obtain ⟨p1, p2⟩ := hj
    have hl : j - 1 < ln.length := by omega
    have h3 := srt_cnt (q := key m c) hs (j - 1) ln[j - 1] (List.getElem?_eq_getElem hl)
    have h4 := List.pairwise_iff_getElem.mp hs (j - 1) j hl p1 (by omega)
    rw [p2] at h4
    have := h3.mpr h4
    omega
theorem qu_perm (hL : relL m I R rc ln qu) : qu.Perm ln := (List.perm_ext_iff_of_nodup hL.2.2.2.2.2.2.2.2 (ln_nodup hL)).mpr hL.2.2.2.2.2.2.1
theorem cntA_eq (hC : relC m I R LP rc) (hL : relL m I R rc ln qu) (hI : Inv m B) {c : Nat} (hc : c < mC m) : cntA I (qu.map rc) (rc c) = ln.countP (fun d => decide (key m d < key m c)) := by
  unfold cntA
  rw [List.countP_map, ← (qu_perm hL).countP_eq]
  refine List.countP_congr fun d hd => ?_
  have hd := ((hL.2.2.2.2.2.1 d).mp ((hL.2.2.2.2.2.2.1 d).mp hd)).1
  have h150 := hI.2.2.1
  show ahdF I (rc d) (rc c) = true ↔ _
  rw [ahd_eq (m := m) (by omega) (by omega) (hC.2.2 d hd).1.1 (hC.2.2 c hc).1.1 (hC.2.2 d hd).1.2.2.2.2.2.1 (hC.2.2 c hc).1.2.2.2.2.2.1 (rank_in hI.2.2.2.1 hd) (rank_in hI.2.2.2.1 hc)]
theorem find_map {f : Nat → Nat} {p : Nat → Bool} {l : List Nat} : (l.map f).find? p = (l.find? (fun x => p (f x))).map f := by
  induction l with
  | nil => rfl
  | cons a l ih =>
    rw [List.map_cons, List.find?_cons, List.find?_cons]
    cases h : p (f a)
    · simp only [h]; exact ih
    · simp only [h]; rfl
theorem find_cnt (hC : relC m I R LP rc) (hL : relL m I R rc ln qu) (hI : Inv m B) (x : Int32) : (qu.map rc).find? (fun b => decide (nI (cntA I (qu.map rc) b) = x)) = (lnAt ln x).map rc := by
  have hl24 := hL.2.1
  rw [find_map]
  congr 1
  have hmem : ∀ c, c ∈ qu → c < mC m ∧ ∃ j, ln[j]? = some c := fun c hc => by
    have h1 := (hL.2.2.2.2.2.2.1 c).mp hc
    exact ⟨((hL.2.2.2.2.2.1 c).mp h1).1, List.mem_iff_getElem?.mp h1⟩
  cases hx : lnAt ln x with
  | none =>
    rw [List.find?_eq_none]
    intro c hc
    obtain ⟨h1, j, hj⟩ := hmem c hc
    have hjl := (List.getElem?_eq_some_iff.mp hj).1
    rw [cntA_eq hC hL hI h1, cnt_at hL hj]
    intro z
    have z := of_decide_eq_true z
    rw [← z, lnAt_n (by omega), hj] at hx
    cases hx
  | some c =>
    have hcl := lnAt_mem hx
    have hcq := (hL.2.2.2.2.2.2.1 c).mpr hcl
    obtain ⟨h1, j, hj⟩ := hmem c hcq
    have hjl := (List.getElem?_eq_some_iff.mp hj).1
    have ex : x = nI j := by
      unfold lnAt at hx
      split at hx
      · next h0 =>
        obtain ⟨k, hk, rfl⟩ := nI_of (x := x) (by grind)
        rw [nI_toNat hk] at hx
        have e1 := cnt_at hL hx
        have e2 := cnt_at hL hj
        rw [← e1, ← e2]
      · cases hx
    cases hf : qu.find? (fun y => decide (nI (cntA I (qu.map rc) (rc y)) = x)) with
    | none =>
      have := (List.find?_eq_none.mp hf) c hcq
      rw [cntA_eq hC hL hI h1, cnt_at hL hj, ex] at this
      exact absurd (by simp) this
    | some d =>
      have hd := List.mem_of_find?_eq_some hf
      have hd2 := List.find?_some hf
      simp only [decide_eq_true_eq] at hd2
      obtain ⟨g1, k, hk⟩ := hmem d hd
      have hkl := (List.getElem?_eq_some_iff.mp hk).1
      rw [cntA_eq hC hL hI g1, cnt_at hL hk, ex] at hd2
      have := (nI_eq (by omega) (by omega)).mp hd2
      rw [this, hj] at hk
      exact hk.symm
end CN
