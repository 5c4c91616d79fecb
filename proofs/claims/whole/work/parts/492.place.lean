/-! a call is placed -/
section PL
variable {m m' : Mu} {I : kI} {L : kL} {R : kRf} {LP : List Nat} {rc : Nat → Nat} {ln qu : List Nat} {lg B : Nat}
def plM (m : Mu) (f t u k : Int32) : Mu := ms (ms (ms (ms (ms (ms (ms m 51 (mC m) f) 52 (mC m) t) 53 (mC m) u) 54 (mC m) k) 55 (mC m) 119) 60 (mC m) (m.1 30 26)) 30 10 (m.1 30 10 + 1)
theorem place_log (m : Mu) (f t u k : Int32) : mPlace m f t u k = mLog (plM m f t u k) 112 (nI (mC m)) := by
  unfold mPlace plM mLog
  refine Prod.ext (funext fun a => funext fun b => ?_) rfl
  simp only [ms]
  by_cases h : a = 30
  · subst h
    by_cases h1 : b = 10
    · subst h1; simp
    · by_cases h2 : b = 27
      · subst h2; simp
      · simp [h1, h2]
  · simp [h]
variable {f t u k : Int32}
theorem pl_C (hn : m.1 30 10 = nI (mC m)) (h : mC m < 150) : mC (plM m f t u k) = mC m + 1 := by
  show (m.1 30 10 + 1).toNatClampNeg = _
  rw [hn, nI_1, nI_toNat (by omega)]
theorem pl_o {j : Nat} (k' : Nat) (h : j ≠ mC m) (h2 : k' ≠ 30) : (plM m f t u k).1 k' j = m.1 k' j := by
  unfold plM
  simp [ms, h, h2]
theorem pl_30 {j : Nat} (h : j ≠ 10) : (plM m f t u k).1 30 j = m.1 30 j := by
  unfold plM
  simp [ms, h]
theorem pl_k (k' j : Nat) (h : k' ≠ 51 ∧ k' ≠ 52 ∧ k' ≠ 53 ∧ k' ≠ 54 ∧ k' ≠ 55 ∧ k' ≠ 60 ∧ k' ≠ 30) : (plM m f t u k).1 k' j = m.1 k' j := by
  unfold plM
  simp [ms, h]
theorem pl_c : (plM m f t u k).1 51 (mC m) = f ∧ (plM m f t u k).1 52 (mC m) = t ∧ (plM m f t u k).1 53 (mC m) = u ∧ (plM m f t u k).1 54 (mC m) = k ∧ (plM m f t u k).1 55 (mC m) = 119 ∧ (plM m f t u k).1 60 (mC m) = m.1 30 26 := by
  unfold plM
  simp [ms]
theorem pl_S : mS (plM m f t u k) = mS m := rfl
theorem pl_spk {i : Nat} : mSpk (plM m f t u k) i = true ↔ mSpk m i = true ∧ i ≠ mC m := by
  unfold mSpk
  by_cases h : i = mC m
  · rw [h, pl_c.2.2.2.2.1]; simp
  · rw [pl_o 55 h (by decide)]; simp [h]
theorem okH_sub2 (hh : okH m) (e : ∀ i, i < mC m' → mSpk m' i = true → i < mC m ∧ mSpk m i = true ∧ m'.1 56 i = m.1 56 i ∧ m'.1 57 i = m.1 57 i ∧ m'.1 58 i = m.1 58 i) : okH m' := by
  refine ⟨⟨fun i hi hs => ?_, fun i j hi hj si sj q => ?_⟩, fun i j hi hj si sj q => ?_, fun i hi hs => ?_⟩
  · obtain ⟨a0, a, b, -⟩ := e i hi hs
    rw [b]; exact hh.1.1 i a0 a
  · obtain ⟨a0, a, b, -⟩ := e i hi si
    obtain ⟨c0, a', b', -⟩ := e j hj sj
    exact hh.1.2 i j a0 c0 a a' (by rw [← b, ← b', q])
  · obtain ⟨a0, a, -, b, -⟩ := e i hi si
    obtain ⟨c0, a', -, b', -⟩ := e j hj sj
    rw [b, b']; exact hh.2.1 i j a0 c0 a a' q
  · obtain ⟨a0, a, -, -, b⟩ := e i hi hs
    rw [b]; exact hh.2.2 i a0 a
theorem pl_okH (hn : m.1 30 10 = nI (mC m)) (h : mC m < 150) (hh : okH m) : okH (plM m f t u k) := by
  refine okH_sub2 hh fun i hi hs => ?_
  rw [pl_C hn h] at hi
  have h2 := pl_spk.mp hs
  exact ⟨by omega, h2.1, pl_o 56 h2.2 (by decide), pl_o 57 h2.2 (by decide), pl_o 58 h2.2 (by decide)⟩
theorem pl_on (hn : m.1 30 10 = nI (mC m)) (h : mC m < 150) (hh : okH m) (h' : Nat) : mOn (plM m f t u k) h' = mOn m h' := by
  refine mOn_congr hh (pl_okH hn h hh) fun c => ?_
  rw [pl_C hn h, pl_spk]
  constructor
  · intro ⟨a, ⟨b, d⟩, e⟩
    rw [pl_o 56 d (by decide)] at e
    exact ⟨by omega, b, e⟩
  · intro ⟨a, b, e⟩
    have d : c ≠ mC m := by omega
    exact ⟨by omega, ⟨b, d⟩, by rw [pl_o 56 d (by decide)]; exact e⟩
theorem inv_pl {f t : Nat} (hn : m.1 30 10 = nI (mC m)) (hI : Inv m B) (h : mC m < 150) (h24 : mMany m 119 + mMany m 115 < 24) (hf : f < mS m) (ht : t < mS m) (hft : f ≠ t) (hu : u = 100 ∨ u = 117 ∨ u = 115 ∨ u = 114) : Inv (plM m (nI f) (nI t) u k) B := by
  obtain ⟨a, b, c, d, e, _, g, i, j⟩ := hI
  obtain ⟨p1, p2, p3, p4, p5, p6⟩ := pl_c (m := m) (f := nI f) (t := nI t) (u := u) (k := k)
  have hC := pl_C (f := nI f) (t := nI t) (u := u) (k := k) hn h
  refine ⟨a, fun s hs => ?_, by omega, fun x hx => ?_, pl_okH hn h e, ?_, ?_, ⟨fun x hx => ?_, fun s hs => ?_, fun s => ?_⟩, ?_⟩
  · rw [pl_k 41 s (by decide)]; exact b s hs
  · rw [hC] at hx
    by_cases q : x = mC m
    · subst q
      exact ⟨⟨f, t, p1, hf, p2, ht, hft⟩, by rw [p3]; exact hu, Or.inl p5⟩
    · unfold okC
      rw [pl_o 51 q (by decide), pl_o 52 q (by decide), pl_o 53 q (by decide), pl_o 55 q (by decide)]
      exact d x (by omega)
  · rw [open_eq] at h24 ⊢
    unfold mOpen at h24 ⊢
    rw [hC, List.range_succ, List.countP_append]
    have e1 : (List.range (mC m)).countP (fun c => decide ((plM m (nI f) (nI t) u k).1 55 c = 119) || decide ((plM m (nI f) (nI t) u k).1 55 c = 115)) = (List.range (mC m)).countP (fun c => decide (m.1 55 c = 119) || decide (m.1 55 c = 115)) := List.countP_congr fun x hx => by
      have : x ≠ mC m := by have := List.mem_range.mp hx; omega
      rw [pl_o 55 this (by decide)]
    rw [e1, List.countP_cons, List.countP_nil]
    split <;> omega
  · obtain ⟨t0, bg, g0, g1, g2, g3, g4, g5, g6, g7, g8⟩ := g
    refine ⟨t0, bg, g0, by rw [pl_30 (by decide)]; exact g1, g2, by rw [pl_30 (by decide)]; exact g3, g4, by rw [pl_30 (by decide)]; exact g5, g6, fun x hx => ?_, fun x hx => ?_⟩
    · rw [hC] at hx
      by_cases q : x = mC m
      · subst q; exact ⟨t0, by rw [p6]; exact g1, Nat.le_refl _⟩
      · rw [pl_o 60 q (by decide)]; exact g7 x (by omega)
    · rw [hC] at hx
      rw [pl_k 58 x (by decide)]
      by_cases q : x = mC m
      · subst q; exact ⟨0, by rw [(i.1 _ (Nat.le_refl _)).1]; exact nI_0.symm, Nat.zero_le _⟩
      · exact g8 x (by omega)
  · rw [hC] at hx
    rw [pl_k 58 x (by decide), pl_k 59 x (by decide)]
    exact i.1 x (by omega)
  · rw [pl_k 43 s (by decide)]; exact i.2.1 s hs
  · rw [pl_k 44 s (by decide)]; exact i.2.2 s
  · obtain ⟨t', a', s', j1, j2, j3, j4, j5, j6⟩ := j
    refine ⟨t', a', s', by rw [pl_30 (by decide)]; exact j1, j2, by rw [pl_30 (by decide)]; exact j3, by rw [pl_30 (by decide)]; exact j4, ?_, j6⟩
    refine Nat.le_trans j5 ?_
    unfold cnt58
    rw [hC, List.range_succ, List.countP_append]
    have e1 : (List.range (mC m)).countP (fun i => decide ((plM m (nI f) (nI t) u k).1 58 i ≠ 0)) = (List.range (mC m)).countP (fun i => decide (m.1 58 i ≠ 0)) := List.countP_congr fun x _ => by rw [pl_k 58 x (by decide)]
    rw [e1]; omega
/-- the memory with the new call, before the line knows it -/
def plI (I : kI) (q : Nat) (c f t k p u : Int32) (n : Int32) : kI := ku (ku (ku (ku (ku (ku (ku (ku (ku (ku (kz I q) 20 q 0 c) 20 q 1 f) 20 q 2 t) 20 q 6 k) 20 q 3 p) 20 q 7 119) 20 q 8 (-1)) 20 q 4 u) 20 q 5 (wghtF u)) 0 0 5 n
def rcN (rc : Nat → Nat) (c q : Nat) : Nat → Nat := fun i => if i = c then q else rc i
theorem rcN_c {c q : Nat} : rcN rc c q c = q := if_pos rfl
theorem rcN_o {c q i : Nat} (h : i ≠ c) : rcN rc c q i = rc i := if_neg h
theorem map_rcN {c q : Nat} {l : List Nat} (h : c ∉ l) : l.map (rcN rc c q) = l.map rc := List.map_congr_left fun x hx => rcN_o (fun z => h (z ▸ hx))
theorem pl_o20 {q : Nat} {c f t k p u n : Int32} {a : Nat} (h : a ≠ q) (x : Nat) : plI I q c f t k p u n 20 a x = I 20 a x := by
  unfold plI
  simp [ku, h, kz]
theorem pl_ok {q : Nat} {c f t k p u n : Int32} {k' i' x : Nat} (h : k' ≠ 20) (h2 : k' = 0 → x ≠ 5) : plI I q c f t k p u n k' i' x = I k' i' x := by
  unfold plI
  by_cases z : k' = 0
  · have := h2 z
    simp [ku, h, kz, z, this]
  · simp [ku, h, kz, z]
theorem rel_place {R' : kRf} {q k0 : Nat} {f t : Nat} (hR : Rel m I L R LP rc ln qu lg) (hI : Inv m B) (hq : q ∉ LP) (h : mC m < 150) (h24 : mMany m 119 + mMany m 115 < 24) (hf : f < mS m) (ht : t < mS m) (hft : f ≠ t) (hu : u = 100 ∨ u = 117 ∨ u = 115 ∨ u = 114)
    (hkl : k0 ≤ (ln.map rc).length) (h1 : arrL R' 12 24 ((ln.map rc).insertIdx k0 q)) (h2 : arrL R' 13 24 (qu.map rc ++ [q])) (h3 : ∀ j b, k0 ≤ j → (ln.map rc)[j]? = some b → ahdF (plI I q (nI (mC m)) (nI f) (nI t) k (m.1 30 26) u (nI (mC m + 1))) q b = true) (h4 : ∀ b, 1 ≤ k0 → (ln.map rc)[k0 - 1]? = some b → ahdF (plI I q (nI (mC m)) (nI f) (nI t) k (m.1 30 26) u (nI (mC m + 1))) q b = false) (h5 : ∀ k' i', (k', i') ≠ (12, 0) → (k', i') ≠ (13, 0) → R' k' i' = (ku R 5 0 (mC m) (some q)) k' i') :
    Rel (plM m (nI f) (nI t) u k) (ku (plI I q (nI (mC m)) (nI f) (nI t) k (m.1 30 26) u (nI (mC m + 1))) 2 0 2 (nI ((ln.map rc).length + 1))) L R' (LP ++ [q]) (rcN rc (mC m) q) (ln.insertIdx k0 (mC m)) (qu ++ [mC m]) lg := by
  obtain ⟨hS, hC, hH, hL, hG, hT⟩ := hR
  have hn := hC.1
  have hI' := inv_pl (k := k) hn hI h h24 hf ht hft hu
  have hCe := pl_C (f := nI f) (t := nI t) (u := u) (k := k) hn h
  obtain ⟨p1, p2, p3, p4, p5, p6⟩ := pl_c (m := m) (f := nI f) (t := nI t) (u := u) (k := k)
  have z := hI.2.2.2.2.2.2.2.1.1 (mC m) (Nat.le_refl _)
  have hcl : mC m ∉ ln := fun w => by have := ((hL.2.2.2.2.2.1 _).mp w).1; omega
  have hcq : mC m ∉ qu := fun w => hcl ((hL.2.2.2.2.2.2.1 _).mp w)
  have hne : ∀ i, i < mC m → rc i ≠ q := fun i hi w => hq (w ▸ (hC.2.1.2.2 i hi).2)
  -- the new call's row
  have row : ∀ st : Int32, (ku (plI I q (nI (mC m)) (nI f) (nI t) k (m.1 30 26) u (nI (mC m + 1))) 20 q 7 st) 20 q 0 = nI (mC m) ∧ (plI I q (nI (mC m)) (nI f) (nI t) k (m.1 30 26) u (nI (mC m + 1))) 20 q 1 = nI f ∧ (plI I q (nI (mC m)) (nI f) (nI t) k (m.1 30 26) u (nI (mC m + 1))) 20 q 2 = nI t ∧ (plI I q (nI (mC m)) (nI f) (nI t) k (m.1 30 26) u (nI (mC m + 1))) 20 q 3 = m.1 30 26 ∧ (plI I q (nI (mC m)) (nI f) (nI t) k (m.1 30 26) u (nI (mC m + 1))) 20 q 4 = u ∧ (plI I q (nI (mC m)) (nI f) (nI t) k (m.1 30 26) u (nI (mC m + 1))) 20 q 5 = wghtF u ∧ (plI I q (nI (mC m)) (nI f) (nI t) k (m.1 30 26) u (nI (mC m + 1))) 20 q 6 = k ∧ (plI I q (nI (mC m)) (nI f) (nI t) k (m.1 30 26) u (nI (mC m + 1))) 20 q 7 = 119 ∧ (plI I q (nI (mC m)) (nI f) (nI t) k (m.1 30 26) u (nI (mC m + 1))) 20 q 10 = 0 ∧ (plI I q (nI (mC m)) (nI f) (nI t) k (m.1 30 26) u (nI (mC m + 1))) 20 q 12 = 0 := by
    intro st
    unfold plI
    simp [ku, kz]
  generalize hJ : plI I q (nI (mC m)) (nI f) (nI t) k (m.1 30 26) u (nI (mC m + 1)) = J at *
  have Jo : ∀ a, a ≠ q → ∀ x, J 20 a x = I 20 a x := fun a ha x => by rw [← hJ]; exact pl_o20 ha x
  have Jk : ∀ k' i' x, k' ≠ 20 → (k' = 0 → x ≠ 5) → J k' i' x = I k' i' x := fun k' i' x a b => by rw [← hJ]; exact pl_ok a b
  have J5 : J 0 0 5 = nI (mC m + 1) := by rw [← hJ]; unfold plI; exact ku_eq _ _ _ _ _
  have mrk : mRank (plM m (nI f) (nI t) u k) (mC m) = wghtF u := by unfold mRank; rw [p3]
  have mro : ∀ i, i ≠ mC m → mRank (plM m (nI f) (nI t) u k) i = mRank m i := fun i hi => by unfold mRank; rw [pl_o 53 hi (by decide)]
  -- any state st of the new call
  have relCs : ∀ (m1 : Mu) (J1 : kI) (st : Int32), m1 = ms (plM m (nI f) (nI t) u k) 55 (mC m) st → st ≠ 115 → (∀ f, J1 0 0 f = J 0 0 f) → (∀ a x, J1 20 a x = if a = q ∧ x = 7 then st else J 20 a x) → relC m1 J1 R' (LP ++ [q]) (rcN rc (mC m) q) := by
    intro m1 J1 st e hst e0 e20
    subst e
    have hC1 : mC (ms (plM m (nI f) (nI t) u k) 55 (mC m) st) = mC m + 1 := hCe
    refine ⟨?_, ⟨by rw [e0, hC1]; exact J5, by rw [hC1]; omega, fun i hi => ?_⟩, fun i hi => ?_⟩
    · rw [hC1]
      show m.1 30 10 + 1 = _
      rw [hn, nI_1]
    · rw [hC1] at hi
      rw [h5 5 0 (pair_ne (by decide)) (pair_ne (by decide)), ku_own]
      by_cases w : i = mC m
      · rw [w, rcN_c]; simp
      · rw [rcN_o w]
        simp only [w, if_false]
        exact ⟨(hC.2.1.2.2 i (by omega)).1, List.mem_append_left _ (hC.2.1.2.2 i (by omega)).2⟩
    · rw [hC1] at hi
      by_cases w : i = mC m
      · subst w
        rw [rcN_c]
        obtain ⟨r0, r1, r2, r3, r4, r5, r6, r7, r8, r9⟩ := row 119
        refine ⟨⟨?_, ?_, ?_, ?_, ?_, ?_, ?_, ?_, ?_, ?_⟩, fun y => ?_⟩
        · rw [e20]; simp; simpa [ku] using r0
        · rw [e20, ms_k _ _ _ (by decide), p1]; simp [r1]
        · rw [e20, ms_k _ _ _ (by decide), p2]; simp [r2]
        · rw [e20, ms_k _ _ _ (by decide), p6]; simp [r3]
        · rw [e20, ms_k _ _ _ (by decide), p3]; simp [r4]
        · rw [e20]; simp [r5]; exact mrk.symm
        · rw [e20, ms_k _ _ _ (by decide), p4]; simp [r6]
        · rw [e20, ms_eq]; simp
        · rw [e20, ms_k _ _ _ (by decide), pl_k 59 _ (by decide), z.2]; simp [r8]
        · rw [e20, ms_k _ _ _ (by decide), pl_k 58 _ (by decide), z.1]; simp [r9]
        · unfold mSpk at y
          rw [ms_eq] at y
          exact absurd (of_decide_eq_true y) hst
      · have hi2 : i < mC m := by omega
        have h0 := hC.2.2 i hi2
        have ne := hne i hi2
        rw [rcN_o w]
        have ex : ∀ x, J1 20 (rc i) x = I 20 (rc i) x := fun x => by rw [e20, if_neg (fun y => ne y.1)]; exact Jo _ ne x
        have em : ∀ k', k' ≠ 30 → (ms (plM m (nI f) (nI t) u k) 55 (mC m) st).1 k' i = m.1 k' i := fun k' hk => by rw [ms_j _ _ _ w]; exact pl_o k' w hk
        have er : mRank (ms (plM m (nI f) (nI t) u k) 55 (mC m) st) i = mRank m i := mro i w
        refine ⟨?_, fun y => ?_⟩
        · unfold cR
          rw [ex, ex, ex, ex, ex, ex, ex, ex, ex, ex, em 51 (by decide), em 52 (by decide), em 60 (by decide), em 53 (by decide), em 54 (by decide), em 55 (by decide), em 59 (by decide), em 58 (by decide), er]
          exact h0.1
        · have : mSpk m i = true := by
            unfold mSpk at y ⊢
            rw [em 55 (by decide)] at y; exact y
          unfold sR
          rw [ex, ex, ex, em 56 (by decide), em 57 (by decide), em 58 (by decide)]
          exact h0.2 this
  have eself : plM m (nI f) (nI t) u k = ms (plM m (nI f) (nI t) u k) 55 (mC m) 119 := by
    refine Prod.ext (funext fun a => funext fun b => ?_) rfl
    show _ = if a = 55 then _ else _
    by_cases w : a = 55
    · by_cases w2 : b = mC m
      · rw [w, w2, p5]; simp
      · simp [w, w2]
    · simp [w]
  refine ⟨?_, ?_, ?_, ?_, ?_, ?_⟩
  · exact relS_c hS (Jk 1 0 5 (by decide) (fun y => absurd y (by decide))) (fun s x => Jk 17 s x (by decide) (fun y => absurd y (by decide))) rfl (fun s => ⟨pl_k 41 s (by decide), pl_k 42 s (by decide), pl_k 43 s (by decide), pl_k 44 s (by decide), pl_k 45 s (by decide), pl_k 46 s (by decide)⟩)
  · refine relCs _ _ 119 eself (by decide) (fun _ => rfl) (fun a x => ?_)
    show J 20 a x = _
    by_cases w : a = q ∧ x = 7
    · rw [if_pos w, w.1, w.2]; exact (row 119).2.2.2.2.2.2.2.1
    · rw [if_neg w]
  · refine ⟨fun h' h3' => ?_, fun h' _ => ?_⟩
    · rw [h5 14 0 (pair_ne (by decide)) (pair_ne (by decide)), ku_k (k := 5) (k' := 14) _ _ _ _ (by decide), pl_on hn h hI.2.2.2.2.1, hH.1 h' h3']
      cases ho : mOn m h' with
      | none => rfl
      | some c =>
        have := mOn_lt ho
        rw [Option.map_some, Option.map_some, rcN_o (by omega)]
    · show J 15 0 h' = _
      rw [Jk 15 0 h' (by decide) (fun y => absurd y (by decide)), pl_k 64 h' (by decide)]; exact hH.2 h' (by assumption)
  · have hC1 := relCs _ (ku J 20 q 7 99) 99 rfl (by decide) (fun _ => rfl) (fun a x => by
      by_cases w : a = q
      · by_cases w2 : x = 7 <;> simp [ku, w, w2]
      · simp [ku, w])
    have hk1 : ∀ i, i < mC (ms (plM m (nI f) (nI t) u k) 55 (mC m) 99) → okC (ms (plM m (nI f) (nI t) u k) 55 (mC m) 99) i := by
      intro i hi
      obtain ⟨o1, o2, o3⟩ := hI'.2.2.2.1 i hi
      refine ⟨o1, o2, ?_⟩
      by_cases w : i = mC m
      · rw [w, ms_eq]; exact Or.inr (Or.inr (Or.inr rfl))
      · rw [ms_j _ _ _ w]; exact o3
    obtain ⟨l1, l2, l3, l4, l5, l6, l7, l8, l9⟩ := hL
    have hlen : ln.length < 24 := by
      have : ln.length = mMany m 119 := ln_len (m := m) (I := I) (R := R) (rc := rc) (qu := qu) ⟨l1, l2, l3, l4, l5, l6, l7, l8, l9⟩
      omega
    have hw1 : ∀ i, i < mC m + 1 → (mWait (ms (plM m (nI f) (nI t) u k) 55 (mC m) 99) i = true ↔ mWait m i = true ∧ i ≠ mC m) := by
      intro i _
      unfold mWait
      by_cases w : i = mC m
      · rw [w, ms_eq]; simp
      · rw [ms_j _ _ _ w, pl_o 55 w (by decide)]; simp [w]
    have hC1e : mC (ms (plM m (nI f) (nI t) u k) 55 (mC m) 99) = mC m + 1 := hCe
    have kk : ∀ x, x ∈ ln → key (ms (plM m (nI f) (nI t) u k) 55 (mC m) 99) x = key m x := by
      intro x hx
      have : x ≠ mC m := fun y => hcl (y ▸ hx)
      unfold key
      rw [show mRank (ms (plM m (nI f) (nI t) u k) 55 (mC m) 99) x = mRank m x from mro x this]
    have hL1 : relL (ms (plM m (nI f) (nI t) u k) 55 (mC m) 99) (ku J 20 q 7 99) R (rcN rc (mC m) q) ln qu := by
      refine ⟨?_, l2, l3, by rw [map_rcN hcl]; exact l4, by rw [map_rcN hcq]; exact l5, fun x => ?_, l7, ?_, l9⟩
      · show J 2 0 2 = _
        rw [Jk 2 0 2 (by decide) (fun y => absurd y (by decide))]; exact l1
      · rw [l6 x, hC1e]
        constructor
        · intro ⟨y1, y2⟩; exact ⟨by omega, (hw1 x (by omega)).mpr ⟨y2, by omega⟩⟩
        · intro ⟨y1, y2⟩
          have := (hw1 x y1).mp y2
          exact ⟨by omega, this.1⟩
      · refine l8.imp_of_mem ?_
        intro a b ha hb hab
        rw [kk a ha, kk b hb]; exact hab
    have em : ln.map (rcN rc (mC m) q) = ln.map rc := map_rcN hcl
    have em2 : qu.map (rcN rc (mC m) q) = qu.map rc := map_rcN hcq
    refine relL_join (m := ms (plM m (nI f) (nI t) u k) 55 (mC m) 99) (R := R) (J := J) hC1 hk1 hL1 hlen (by rw [hC1e]; omega) hcl (by rw [hC1e, hCe]) (fun i hi => ?_) (fun i => rfl) ?_ (fun x => ?_) (fun x => ?_) (by rw [em]; exact hkl) (by rw [em, rcN_c]; exact h1) (by rw [em2, rcN_c]; exact h2) (by rw [em, rcN_c]; exact h3) (by rw [em, rcN_c]; exact h4)
    · rw [hC1e] at hi
      rw [hw1 i hi]
      unfold mWait
      by_cases w : i = mC m
      · rw [w, p5]; simp
      · rw [pl_o 55 w (by decide)]; simp [w]
    · show ku J 2 0 2 _ 2 0 2 = _
      rw [ku_eq, List.length_map]
    · simp [ku]
    · simp [ku]
  · exact relG_c hG (fun x => Jk 4 0 x (by decide) (fun y => absurd y (by decide))) (fun k' x => Jk 18 k' x (by decide) (fun y => absurd y (by decide))) ⟨pl_30 (by decide), fun k' => pl_k 68 k' (by decide), fun k' => pl_k 69 k' (by decide), fun k' => pl_k 70 k' (by decide)⟩
  · exact relT_c hT (fun x hx => by show J 0 0 x = _; exact Jk 0 0 x (by decide) (fun _ => hx)) ⟨pl_30 (by decide), pl_30 (by decide), pl_30 (by decide), pl_30 (by decide), rfl⟩
end PL
