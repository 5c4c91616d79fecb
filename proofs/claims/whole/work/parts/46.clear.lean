/-! the way is cleared before a beginning -/
section CL
variable {m m' : Mu} {B : Nat} {v : Int32}
theorem intOn_dis {h i : Nat} (hm : mOn m h = some i) (hs : mSpk (mIntOn v h m) i = true) : m.1 57 i &&& v = 0 := by
  unfold mIntOn at hs
  rw [hm] at hs
  dsimp only at hs
  by_cases q : m.1 57 i &&& v ≠ 0
  · rw [if_pos q] at hs
    exact absurd rfl (int_spk.mp hs).2
  · exact Classical.not_not.mp q
theorem clear_same : sameI m (mClear m v) := (intOn_same (v := v) (h := 0)).trans ((intOn_same (v := v) (h := 1)).trans (intOn_same (v := v) (h := 2)))
theorem clear_inv (hI : Inv m B) : Inv (mClear m v) (B + 3) := intOn_inv (intOn_inv (intOn_inv hI))
theorem clear_dis (hI : Inv m B) {i : Nat} (hi : i < mC m) (hs : mSpk (mClear m v) i = true) : (mClear m v).1 57 i &&& v = 0 := by
  rw [clear_same.f i (by decide)]
  have s2 : mSpk (mIntOn v 1 (mIntOn v 0 m)) i = true := intOn_sub hs
  have s1 : mSpk (mIntOn v 0 m) i = true := intOn_sub s2
  have s0 : mSpk m i = true := intOn_sub s1
  have i1 : Inv (mIntOn v 0 m) (B + 1) := intOn_inv hI
  have i2 : Inv (mIntOn v 1 (mIntOn v 0 m)) (B + 2) := intOn_inv i1
  have hh := hI.2.2.2.2.1
  obtain ⟨h, h3, -, hm⟩ := mOn_spk hh hi s0
  have : h = 0 ∨ h = 1 ∨ h = 2 := by omega
  rcases this with r | r | r
  · subst r; exact intOn_dis hm s1
  · subst r
    have e : mOn (mIntOn v 0 m) 1 = some i := by rw [intOn_on hh (by decide) (by decide), if_neg (fun z => absurd z.1 (by decide))]; exact hm
    have := intOn_dis e s2
    rw [intOn_same.f i (by decide)] at this
    exact this
  · subst r
    have e : mOn (mIntOn v 0 m) 2 = some i := by rw [intOn_on hh (by decide) (by decide), if_neg (fun z => absurd z.1 (by decide))]; exact hm
    have e2 : mOn (mIntOn v 1 (mIntOn v 0 m)) 2 = some i := by rw [intOn_on i1.2.2.2.2.1 (by decide) (by decide), if_neg (fun z => absurd z.1 (by decide))]; exact e
    have := intOn_dis e2 hs
    rw [intOn_same.f i (by decide), intOn_same.f i (by decide)] at this
    exact this
theorem intOn_wait {h i : Nat} (hw : mWait m i = true) : mWait (mIntOn v h m) i = true := by
  unfold mWait at hw ⊢
  rcases intOn_55 (m := m) (v := v) (h := h) (i := i) with q | q
  · rw [q]; exact hw
  · rw [q.1]; rfl
theorem int_wait {c i : Nat} (hw : mWait m i = true) : mWait (mInt m c) i = true := by
  unfold mWait at hw ⊢
  rw [int_55]; split
  · rfl
  · exact hw
theorem clear_wait {i : Nat} (hw : mWait m i = true) : mWait (mClear m v) i = true := intOn_wait (intOn_wait (intOn_wait hw))
theorem room_wait {c i : Nat} (hw : mWait m i = true) : mWait (mRoom m c) i = true := by
  unfold mRoom; split
  · exact int_wait hw
  · exact hw
/-- a beginning keeps the invariant -/
theorem begin_inv {c : Nat} (hI : Inv m B) (hB : B + 5 < 2 ^ 30) (hc : c < mC m) (hw : mWait m c = true) : Inv (mTake (mRoom (mClear m v) c) c v) (B + 6) := by
  have i1 := clear_inv (v := v) hI
  have i2 := room_inv (c := c) i1
  have e : mC (mRoom (mClear m v) c) = mC m := (clear_same.trans room_same).eC
  rw [take_tk]
  refine inv_log (tk_inv i2 (by omega) (by rw [e]; exact hc) (room_wait (clear_wait hw)) (room_free i1.2.2.2.2.1) fun i hi hs => ?_) 98 (nI c)
  rw [e] at hi
  rw [room_same.f i (by decide)]
  exact clear_dis hI hi (room_sub hs)
end CL
