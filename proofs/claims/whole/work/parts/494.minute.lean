/-! a minute: those that speak, the watches -/
section MI
variable {m m' : Mu} {I : kI} {L : kL} {R : kRf} {LP : List Nat} {rc : Nat → Nat} {ln qu : List Nat} {lg B : Nat}
def mnM (m : Mu) (h c : Nat) : Mu := ms (ms m 64 h (m.1 64 h + 1)) 54 c (m.1 54 c - 1)
def mMin (h : Nat) (x : Mu × Nat) : Mu × Nat := match mOn x.1 h with
  | none => x
  | some c => if 0 < x.1.1 54 c - 1 then (mnM x.1 h c, x.2) else (mEnd (mnM x.1 h c) c, x.2 + 1)
def mMins (m : Mu) : Mu × Nat := mMin 2 (mMin 1 (mMin 0 (m, 0)))
theorem mn_inv {h c : Nat} (hI : Inv m B) : Inv (mnM m h c) B := hI
theorem rel_min {h c : Nat} (hR : Rel m I L R LP rc ln qu lg) (hc : c < mC m) (h3 : h < 3) : Rel (mnM m h c) (ku (ku I 15 0 h (I 15 0 h + 1)) 20 (rc c) 6 (I 20 (rc c) 6 - 1)) L R LP rc ln qu lg := by
  obtain ⟨hS, hC, hH, hL, hG, hT⟩ := hR
  refine ⟨hS, relC_c hC rfl (fun _ _ => rfl) rfl (fun i hi => ?_), ⟨hH.1, fun g g3 => ?_⟩, hL, hG, hT⟩
  · have h0 := hC.2.2 i hi
    obtain ⟨a0, a1, a2, a3, a4, a5, a6, a7, a8, a9⟩ := h0.1
    by_cases q : i = c
    · subst q
      refine ⟨⟨?_, ?_, ?_, ?_, ?_, ?_, ?_, ?_, ?_, ?_⟩, fun z => ?_⟩
      any_goals (simp [mnM, ku, ms, mRank, a0, a1, a2, a3, a4, a5, a6, a7, a8, a9]; done)
      obtain ⟨b0, b1, b2⟩ := h0.2 z
      refine ⟨?_, ?_, ?_⟩ <;> simp [mnM, ku, ms, b0, b1, b2]
    · have hne := rc_ne hC hi hc q
      refine ⟨⟨?_, ?_, ?_, ?_, ?_, ?_, ?_, ?_, ?_, ?_⟩, fun z => ?_⟩
      any_goals (simp [mnM, ku, ms, mRank, q, hne, a0, a1, a2, a3, a4, a5, a6, a7, a8, a9]; done)
      obtain ⟨b0, b1, b2⟩ := h0.2 z
      refine ⟨?_, ?_, ?_⟩ <;> simp [mnM, ku, ms, q, hne, b0, b1, b2]
  · have e := hH.2 g g3
    by_cases q : g = h
    · subst q; simp [mnM, ku, ms, e]
    · simp [mnM, ku, ms, q, e]
theorem min_inv {h n : Nat} (hI : Inv m B) : Inv (mMin h (m, n)).1 (B + 1) := by
  unfold mMin
  cases hm : mOn m h with
  | none => exact hI.mono (Nat.le_succ _)
  | some c =>
    dsimp only
    have h1 := mOn_some hm
    split
    · exact (mn_inv (h := h) (c := c) hI).mono (Nat.le_succ _)
    · exact inv_end (mn_inv (h := h) (c := c) hI) h1.1 h1.2.1
theorem mins_inv (hI : Inv m B) : Inv (mMins m).1 (B + 3) := min_inv (n := _) (min_inv (n := _) (min_inv (n := 0) hI))
/-- a watch is missed -/
def msM (m : Mu) (s : Nat) : Mu := mLog (ms (ms m 46 s (m.1 46 s + 1)) 45 s (m.1 30 26)) 109 (nI s)
def mMiss (m : Mu) (s : Nat) : Mu := if s ≠ 0 ∧ mFull (msM m s) = false then mPlace (msM m s) (nI 0) (nI s) 115 1 else msM m s
def mDue (m : Mu) (s : Nat) : Bool := decide (m.1 43 s = 0) && (decide (0 < m.1 44 s) && decide (m.1 44 s < m.1 30 26 - m.1 45 s))
def mLookUp : Nat → Mu → Mu
  | 0, m => m
  | s + 1, m => if mDue (mLookUp s m) s = true then mMiss (mLookUp s m) s else mLookUp s m
def mLook (m : Mu) : Mu := mLookUp (mS m) m
theorem ms_inv {s : Nat} (hI : Inv m B) : Inv (msM m s) (B + 1) := inv_log (m := ms (ms m 46 s (m.1 46 s + 1)) 45 s (m.1 30 26)) hI 109 (nI s)
theorem rel_ms {s : Nat} (hR : Rel m I L R LP rc ln qu lg) (hs : s < mS m) : Rel (ms (ms m 46 s (m.1 46 s + 1)) 45 s (m.1 30 26)) (ku (ku I 17 s 5 (I 17 s 5 + 1)) 17 s 4 (m.1 30 26)) L R LP rc ln qu lg := by
  obtain ⟨hS, hC, hH, hL, hG, hT⟩ := hR
  obtain ⟨s1, s2, s3, s4⟩ := hS
  refine ⟨⟨s1, s2, fun x hx => ?_, fun x hx => ?_⟩, hC, hH, hL, hG, hT⟩
  · obtain ⟨p, q, r⟩ := s3 x hx
    by_cases e : x = s
    · subst e; simp [ku, ms, p, r]
    · simp [ku, ms, e, p, q, r]
  · obtain ⟨p, q, r⟩ := s4 x hx
    simp [ku, ms]
    exact ⟨p, q, r⟩
theorem full_f (hI : Inv m B) (h : mFull m = false) : mC m < 150 ∧ mMany m 119 + mMany m 115 < 24 := by
  unfold mFull at h
  simp only [Bool.or_eq_false_iff, decide_eq_false_iff_not] at h
  have := hI.2.2.1
  have := hI.2.2.2.2.2.1
  omega
theorem inv_place {f t : Nat} {u k : Int32} (hn : m.1 30 10 = nI (mC m)) (hI : Inv m B) (h : mFull m = false) (hf : f < mS m) (ht : t < mS m) (hft : f ≠ t) (hu : u = 100 ∨ u = 117 ∨ u = 115 ∨ u = 114) : Inv (mPlace m (nI f) (nI t) u k) (B + 1) := by
  have hf2 := full_f hI h
  rw [place_log]
  exact inv_log (inv_pl hn hI hf2.1 hf2.2 hf ht hft hu) 112 (nI (mC m))
theorem place_S {f t u k : Int32} : mS (mPlace m f t u k) = mS m := rfl
theorem ms_S {s : Nat} : mS (msM m s) = mS m := rfl
theorem miss_S {s : Nat} : mS (mMiss m s) = mS m := by
  unfold mMiss; split
  · exact place_S
  · exact ms_S
theorem pl_n (hn : m.1 30 10 = nI (mC m)) (h : mC m < 150) {f t u k : Int32} : (mPlace m f t u k).1 30 10 = nI (mC (mPlace m f t u k)) := by
  have hC : mC (mPlace m f t u k) = mC m + 1 := by rw [place_log, log_C]; exact pl_C hn h
  rw [hC]
  show m.1 30 10 + 1 = _
  rw [hn, nI_1]
theorem miss_inv {s : Nat} (hn : m.1 30 10 = nI (mC m)) (hI : Inv m B) (hs : s < mS m) : Inv (mMiss m s) (B + 2) ∧ (mMiss m s).1 30 10 = nI (mC (mMiss m s)) := by
  have h1 := ms_inv (s := s) hI
  unfold mMiss
  split
  · next h => exact ⟨inv_place (f := 0) (t := s) hn h1 h.2 (by rw [ms_S]; omega) hs (fun z => h.1 z.symm) (Or.inr (Or.inr (Or.inl rfl))), pl_n (m := msM m s) hn (full_f h1 h.2).1⟩
  · exact ⟨h1.mono (by omega), hn⟩
theorem look_inv {s : Nat} (hn : m.1 30 10 = nI (mC m)) (hI : Inv m B) (hs : s ≤ mS m) : Inv (mLookUp s m) (B + 2 * s) ∧ (mLookUp s m).1 30 10 = nI (mC (mLookUp s m)) ∧ mS (mLookUp s m) = mS m := by
  induction s with
  | zero => exact ⟨hI, hn, rfl⟩
  | succ s ih =>
    obtain ⟨i1, i2, i3⟩ := ih (by omega)
    rw [mLookUp]
    split
    · have := miss_inv i2 i1 (s := s) (by omega)
      exact ⟨this.1.mono (by omega), this.2, miss_S.trans i3⟩
    · exact ⟨i1.mono (by omega), i2, i3⟩
/-- a minute, and several -/
def mTick (m : Mu) : Mu := let a := ms m 30 26 (m.1 30 26 + 1); (a.1, a.2 + (nI (mMany m 119)).toInt64)
def mPass1 (m : Mu) : Mu := mSpeak (mLook (mMins (mTick m)).1)
def mPass : Nat → Mu × Nat → Mu × Nat
  | 0, x => x
  | k + 1, x => (mPass1 (mPass k x).1, (mPass k x).2 + (mMins (mTick (mPass k x).1)).2)
theorem tick_inv (hI : Inv m B) : Inv (mTick m) (B + 4000) := by
  obtain ⟨a, b, c, d, e, f, g, i, j⟩ := hI
  obtain ⟨t, bg, g0, g1, g2, g3, g4, g5, g6, g7, g8⟩ := g
  obtain ⟨t', a', s', j1, j2, j3, j4, j5, j6⟩ := j
  have z1 : (t' + 1) * 4000 ≤ B + 4000 := by rw [Nat.add_mul]; exact Nat.add_le_add_right j2 4000
  have z2 : t + 1 ≤ B + 4000 := by omega
  have z3 : bg ≤ B + 4000 := by omega
  have z4 : g0 ≤ B + 4000 := by omega
  refine ⟨a, b, c, d, e, f, ⟨t + 1, bg, g0, ?_, z2, g3, z3, g5, z4, fun x hx => ?_, g8⟩, i, ⟨t' + 1, a', s', ?_, z1, j3, j4, j5, ?_⟩⟩
  · show m.1 30 26 + 1 = _; rw [g1]; exact nI_1 t
  · obtain ⟨p, p1, p2⟩ := g7 x hx
    exact ⟨p, p1, by omega⟩
  · show m.1 30 26 + 1 = _; rw [j1]; exact nI_1 t'
  · rw [Nat.mul_add]; omega
theorem rel_tick (hR : Rel m I L R LP rc ln qu lg) : Rel (mTick m) (ku I 0 0 6 (m.1 30 26 + 1)) (ku L 0 0 8 (L 0 0 8 + (nI ln.length).toInt64)) R LP rc ln qu lg := by
  obtain ⟨hS, hC, hH, hL, hG, hT⟩ := hR
  refine ⟨hS, hC, hH, hL, hG, ?_⟩
  obtain ⟨t1, t2, t3, t4, t5⟩ := hT
  refine ⟨?_, t2, t3, ?_, ?_⟩
  · simp [ku, mTick, ms]
  · rw [ku_eq, t4, ln_len hL]; rfl
  · rw [ku_f _ _ _ _ (by decide)]; exact t5
end MI
