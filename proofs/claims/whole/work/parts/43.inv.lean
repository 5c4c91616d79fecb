/-! the value's invariant is kept: log, interruptions, ends -/
section IV
variable {m m' m1 m2 : Mu} {B B' : Nat}
theorem okN_mono (h : okN m B) (hB : B ≤ B') : okN m B' := by
  obtain ⟨t, b, g, h1, h2, h3, h4, h5, h6, h7, h8⟩ := h
  exact ⟨t, b, g, h1, by omega, h3, by omega, h5, by omega, h7, h8⟩
theorem okA_mono (h : okA m B) (hB : B ≤ B') : okA m B' := by
  obtain ⟨t, a, s, h1, h2, h3⟩ := h
  exact ⟨t, a, s, h1, by omega, h3⟩
theorem Inv.mono (h : Inv m B) (hB : B ≤ B') : Inv m B' := by
  obtain ⟨a, b, c, d, e, f, g, i, j⟩ := h
  exact ⟨a, b, c, d, e, f, okN_mono g hB, i, okA_mono j hB⟩
theorem inv_log (h : Inv m B) (k n : Int32) : Inv (mLog m k n) (B + 1) := by
  obtain ⟨a, b, c, d, e, f, g, i, j⟩ := h
  refine ⟨a, b, c, d, e, f, ?_, i, okA_mono j (Nat.le_succ _)⟩
  obtain ⟨t, b, g, h1, h2, h3, h4, h5, h6, h7, h8⟩ := g
  exact ⟨t, b, g + 1, h1, by omega, h3, by omega, by show m.1 30 27 + 1 = _; rw [h5]; exact nI_1 g, by omega, h7, h8⟩
/-- what a change of the states alone leaves -/
def sameI (m m' : Mu) : Prop := (∀ k j, k ≠ 55 → k ≠ 59 → k ≠ 68 → k ≠ 69 → k ≠ 70 → (k = 30 → j ≠ 27) → m'.1 k j = m.1 k j) ∧ m'.2 = m.2
theorem sameI.refl : sameI m m := ⟨fun _ _ _ _ _ _ _ _ => rfl, rfl⟩
theorem sameI.trans (h : sameI m m1) (h2 : sameI m1 m2) : sameI m m2 := ⟨fun k j a b c d e f => (h2.1 k j a b c d e f).trans (h.1 k j a b c d e f), h2.2.trans h.2⟩
theorem sameI.eC (h : sameI m m') : mC m' = mC m := by unfold mC; rw [h.1 30 10 (by decide) (by decide) (by decide) (by decide) (by decide) (by decide)]
theorem sameI.eS (h : sameI m m') : mS m' = mS m := by unfold mS; rw [h.1 30 0 (by decide) (by decide) (by decide) (by decide) (by decide) (by decide)]
theorem sameI.f (h : sameI m m') {k : Nat} (j : Nat) (hk : k = 41 ∨ k = 42 ∨ k = 43 ∨ k = 44 ∨ k = 45 ∨ k = 46 ∨ k = 51 ∨ k = 52 ∨ k = 53 ∨ k = 54 ∨ k = 56 ∨ k = 57 ∨ k = 58 ∨ k = 60 ∨ k = 64) : m'.1 k j = m.1 k j := h.1 k j (by omega) (by omega) (by omega) (by omega) (by omega) (by omega)
theorem sameI.rank (h : sameI m m') (c : Nat) : mRank m' c = mRank m c := by unfold mRank; rw [h.f c (by decide)]
theorem sameI.eK (h : sameI m m') (c : Nat) : key m' c = key m c := by unfold key; rw [h.rank]
theorem sameI.first (h : sameI m m') (c : Nat) : mFirst m' c = mFirst m c := by unfold mFirst; rw [h.rank]
theorem sameI.adj (h : sameI m m') : mAdj m' = mAdj m := by
  funext a b
  unfold mAdj mFar mApart
  rw [h.f a (k := 41) (by decide), h.f a (k := 42) (by decide), h.f a (k := 43) (by decide), h.f b (k := 41) (by decide), h.f b (k := 42) (by decide), h.f b (k := 43) (by decide)]
theorem sameI.bits (h : sameI m m') (x y : Int32) : mBits m' x y = mBits m x y := by unfold mBits mWay; rw [h.adj, h.eS]
theorem same_int (c : Nat) : sameI m (mInt m c) := by
  refine ⟨fun k j a b c d e f => ?_, rfl⟩
  unfold mInt mLog
  rw [ms, ms, ms, ms, ms, ms]
  by_cases q : k = 30
  · have := f q
    simp [q, this]
  · simp [q, a, b, c, d, e]
theorem inv_wait (h : Inv m B) {c : Nat} (hc : c < mC m) (hs : mSpk m c = true) : Inv (stM m c) B := by
  obtain ⟨a, b, z, d, e, f, g, i, j⟩ := h
  have hspk : m.1 55 c = 115 := by unfold mSpk at hs; exact of_decide_eq_true hs
  refine ⟨a, b, z, fun x hx => ?_, stM_okH e, ?_, g, ⟨fun x hx => ?_, i.2⟩, j⟩
  · obtain ⟨d1, d2, d3⟩ := d x hx
    refine ⟨d1, d2, ?_⟩
    by_cases q : x = c
    · subst q; exact Or.inl (by simp [stM, ms])
    · rw [show (stM m c).1 55 x = m.1 55 x from by simp [stM, ms, q]]; exact d3
  · rw [open_eq] at f ⊢
    refine Nat.le_trans (open_le (m := m) rfl fun x hx z => ?_) f
    by_cases q : x = c
    · subst q; exact Or.inr hspk
    · rw [show (stM m c).1 55 x = m.1 55 x from by simp [stM, ms, q]] at z; exact z
  · have q : x ≠ c := by
      have : mC (stM m c) = mC m := rfl
      omega
    rw [show (stM m c).1 59 x = m.1 59 x from by simp [stM, ms, q]]
    exact i.1 x hx
theorem inv_int (h : Inv m B) {c : Nat} (hc : c < mC m) (hs : mSpk m c = true) : Inv (mInt m c) (B + 1) := inv_log (inv_wait h hc hs) 105 (nI c)
theorem inv_over (h : Inv m B) {c : Nat} {v : Int32} (hc : c < mC m) (hs : m.1 55 c = 115 ∨ m.1 55 c = 119) (hv : v = 101 ∨ v = 99) : Inv (ms m 55 c v) B := by
  obtain ⟨a, b, z, d, e, f, g, i, j⟩ := h
  have v1 : v ≠ 115 := by rcases hv with q | q <;> rw [q] <;> decide
  have v2 : v ≠ 119 := by rcases hv with q | q <;> rw [q] <;> decide
  refine ⟨a, b, z, fun x hx => ?_, okH_sub e rfl (fun x hx z => ⟨?_, rfl, rfl, rfl⟩), ?_, g, i, j⟩
  · obtain ⟨d1, d2, d3⟩ := d x hx
    refine ⟨d1, d2, ?_⟩
    by_cases q : x = c
    · subst q; rw [ms_eq]; rcases hv with q | q
      · exact Or.inr (Or.inr (Or.inl q))
      · exact Or.inr (Or.inr (Or.inr q))
    · rw [ms_j _ _ _ q]; exact d3
  · unfold mSpk at z ⊢
    by_cases q : x = c
    · subst q; rw [ms_eq] at z; exact absurd (of_decide_eq_true z) v1
    · rw [ms_j _ _ _ q] at z; exact z
  · rw [open_eq] at f ⊢
    refine Nat.le_trans (open_le (m := m) rfl fun x hx z => ?_) f
    by_cases q : x = c
    · subst q; rw [ms_eq] at z
      rcases z with z | z
      · exact absurd z v2
      · exact absurd z v1
    · rw [ms_j _ _ _ q] at z; exact z
theorem inv_end (h : Inv m B) {c : Nat} (hc : c < mC m) (hs : mSpk m c = true) : Inv (mEnd m c) (B + 1) := inv_log (inv_over h hc (Or.inl (by unfold mSpk at hs; exact of_decide_eq_true hs)) (Or.inl rfl)) 101 (nI c)
/-- breaking in on those that share a station -/
theorem int_55 {c i : Nat} : (mInt m c).1 55 i = if i = c then 119 else m.1 55 i := by
  by_cases q : i = c
  · subst q; simp [mInt, mLog, ms]
  · simp [mInt, mLog, ms, q]
theorem int_spk {c i : Nat} : mSpk (mInt m c) i = true ↔ mSpk m i = true ∧ i ≠ c := stM_spk (m := m) (c := c) (i := i)
theorem int_on (hh : okH m) {c h0 : Nat} (hm : mOn m h0 = some c) (h03 : h0 < 3) {h : Nat} (h3 : h < 3) : mOn (mInt m c) h = if h = h0 then none else mOn m h :=
  mOn_stop (m' := mInt m c) hh (stM_okH (m := m) (c := c) hh) (same_int c).eC hm h03 (fun _ _ => int_spk) (fun i _ => (same_int c).f i (by decide)) h3
theorem intOn_same {v : Int32} {h : Nat} : sameI m (mIntOn v h m) := by
  unfold mIntOn
  split
  · exact sameI.refl
  · split
    · exact same_int _
    · exact sameI.refl
theorem intOn_inv {v : Int32} {h : Nat} (hI : Inv m B) : Inv (mIntOn v h m) (B + 1) := by
  unfold mIntOn
  cases hm : mOn m h with
  | none => exact hI.mono (Nat.le_succ _)
  | some o =>
    have h1 := mOn_some hm
    dsimp only
    split
    · exact inv_int hI h1.1 h1.2.1
    · exact hI.mono (Nat.le_succ _)
theorem intOn_on {v : Int32} {h : Nat} (hh : okH m) (h3 : h < 3) {g : Nat} (g3 : g < 3) : mOn (mIntOn v h m) g = if g = h ∧ mSh m v (mOn m h) = true then none else mOn m g := by
  unfold mIntOn
  cases hm : mOn m h with
  | none => simp [mSh]
  | some o =>
    dsimp only
    by_cases q : m.1 57 o &&& v ≠ 0
    · rw [if_pos q, int_on hh hm h3 g3]
      have : mSh m v (some o) = true := by unfold mSh; exact decide_eq_true q
      simp [this]
    · rw [if_neg q]
      have : mSh m v (some o) = false := by unfold mSh; exact decide_eq_false q
      simp [this]
theorem intOn_55 {v : Int32} {h i : Nat} : (mIntOn v h m).1 55 i = m.1 55 i ∨ ((mIntOn v h m).1 55 i = 119 ∧ mOn m h = some i ∧ mSh m v (some i) = true) := by
  unfold mIntOn
  cases hm : mOn m h with
  | none => exact Or.inl rfl
  | some o =>
    dsimp only
    by_cases q : m.1 57 o &&& v ≠ 0
    · rw [if_pos q, int_55]
      by_cases q2 : i = o
      · rw [if_pos q2]
        subst q2
        exact Or.inr ⟨rfl, rfl, by unfold mSh; exact decide_eq_true q⟩
      · rw [if_neg q2]; exact Or.inl rfl
    · rw [if_neg q]; exact Or.inl rfl
end IV
