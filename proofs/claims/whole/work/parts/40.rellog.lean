/-! the relation is kept: the log; a call stops speaking -/
theorem nI_mod60 {g : Nat} (h : g < 2 ^ 31) : (nI g - nI g / 60 * 60).toNatClampNeg = g % 60 := by
  have e1 := nI_toInt (n := g) h
  have e60 : (60 : Int32).toInt = 60 := by decide
  have a1 : (nI g / 60).toInt = (g : Int) / 60 := by
    rw [Int32.toInt_div, e1, e60, Int.tdiv_eq_ediv_of_nonneg (by omega)]
    exact Int.bmod_eq_of_le (by omega) (by omega)
  have a2 : (nI g / 60 * 60).toInt = (g : Int) / 60 * 60 := by
    rw [Int32.toInt_mul, a1, e60]; exact Int.bmod_eq_of_le (by omega) (by omega)
  have a3 : (nI g - nI g / 60 * 60).toInt = (g % 60 : Nat) := by
    rw [Int32.toInt_sub, e1, a2]
    rw [Int.bmod_eq_of_le (by omega) (by omega)]
    omega
  rw [← Int32.toNat_toInt, a3]
  rfl
section RG
variable {m m' : Mu} {I : kI} {L : kL} {R : kRf} {LP : List Nat} {rc : Nat → Nat} {ln qu : List Nat} {lg B : Nat}
theorem nI_s1 {g : Nat} (h : g + 1 < 2 ^ 31) : nI g + 1 = nI (g + 1) := nI_1 g
theorem relS_c {I' : kI} (h : relS m I) (e1 : I' 1 0 5 = I 1 0 5) (e2 : ∀ s f, I' 17 s f = I 17 s f) (e3 : m'.1 30 0 = m.1 30 0) (e4 : ∀ s, m'.1 41 s = m.1 41 s ∧ m'.1 42 s = m.1 42 s ∧ m'.1 43 s = m.1 43 s ∧ m'.1 44 s = m.1 44 s ∧ m'.1 45 s = m.1 45 s ∧ m'.1 46 s = m.1 46 s) : relS m' I' := by
  have em : mS m' = mS m := by unfold mS; rw [e3]
  obtain ⟨a, b, c, d⟩ := h
  refine ⟨by rw [e3, em]; exact a, by rw [em]; exact ⟨by rw [e1]; exact b.1, b.2⟩, fun s hs => ?_, fun s hs => ?_⟩
  · obtain ⟨-, -, -, x, y, z⟩ := e4 s
    rw [e2, e2, e2, x, y, z]; exact c s hs
  · obtain ⟨x, y, z, -, -, -⟩ := e4 s
    rw [em] at hs
    rw [e2, e2, e2, x, y, z]; exact d s hs
theorem relT_c {I' : kI} (h : relT m I L) (e1 : ∀ f, f ≠ 5 → I' 0 0 f = I 0 0 f) (e2 : m'.1 30 26 = m.1 30 26 ∧ m'.1 30 21 = m.1 30 21 ∧ m'.1 30 22 = m.1 30 22 ∧ m'.1 30 23 = m.1 30 23 ∧ m'.2 = m.2) : relT m' I' L := by
  obtain ⟨a, b, c, d, e⟩ := e2
  unfold relT
  rw [e1 6 (by decide), e1 7 (by decide), e1 10 (by decide), a, b, c, d, e]
  exact h
theorem relG_c {I' : kI} (h : relG m I lg) (e1 : ∀ f, I' 4 0 f = I 4 0 f) (e2 : ∀ k f, I' 18 k f = I 18 k f) (e3 : m'.1 30 27 = m.1 30 27 ∧ (∀ k, m'.1 68 k = m.1 68 k) ∧ (∀ k, m'.1 69 k = m.1 69 k) ∧ ∀ k, m'.1 70 k = m.1 70 k) : relG m' I' lg := by
  obtain ⟨a, b, c, d⟩ := e3
  unfold relG
  simp only [e1, e2, a, b, c, d]
  exact h
/-- the log, on both sides -/
theorem rel_log (h : Rel m I L R LP rc ln qu lg) (hl : lg + 1 < 2 ^ 31) (k n : Int32) (hk : narrow .char (.int k) = .int k := by rfl) : Rel (mLog m k n) (logW I (lg % 60) (min lg 60) (m.1 30 26) k n) L R LP rc ln qu (lg + 1) := by
  obtain ⟨hS, hC, hH, hL, hG, hT⟩ := h
  have hG0 := hG
  obtain ⟨g1, g2, g3, g4, g5⟩ := hG
  have ek : ((m.1 30 27) - (m.1 30 27) / 60 * 60).toNatClampNeg = lg % 60 := by rw [g1]; exact nI_mod60 (by omega)
  have em : mLog m k n = ms (ms (ms (ms m 68 (lg % 60) (m.1 30 26)) 69 (lg % 60) k) 70 (lg % 60) n) 30 27 (m.1 30 27 + 1) := by unfold mLog; rw [ek]
  rw [em]
  refine ⟨hS, hC, hH, hL, ⟨?_, ?_, ?_, ?_, fun j hj => ?_⟩, hT⟩
  · rw [ms_eq, g1]; exact nI_1 lg
  · simp [logW, ku, g2]; exact nI_1 lg
  · simp [logW, ku]
    congr 1
    split <;> omega
  · simp [logW, ku]
    congr 1
    omega
  · by_cases q : j = lg % 60
    · subst q
      simp [logW, ku, ms]
      exact hk
    · have := g5 j hj
      simp [logW, ku, ms, q]
      exact this
end RG
