/-! THE RELATION between the class's memory and the common value -/
def key (m : Mu) (c : Nat) : Int := (3 - (mRank m c).toInt) * 150 + c
/-- stations -/
def relS (m : Mu) (I : kI) : Prop := m.1 30 0 = nI (mS m) ∧ stF I (mS m) ∧ (∀ s, s < 10 → I 17 s 3 = m.1 44 s ∧ I 17 s 4 = m.1 45 s ∧ I 17 s 5 = m.1 46 s) ∧
  (∀ s, s < mS m → I 17 s 0 = m.1 41 s ∧ I 17 s 1 = m.1 42 s ∧ I 17 s 2 = (if m.1 43 s = 0 then 1 else 0))
/-- a call's fields -/
def cR (m : Mu) (I : kI) (a i : Nat) : Prop := I 20 a 0 = nI i ∧ I 20 a 1 = m.1 51 i ∧ I 20 a 2 = m.1 52 i ∧ I 20 a 3 = m.1 60 i ∧ I 20 a 4 = m.1 53 i ∧ I 20 a 5 = mRank m i ∧ I 20 a 6 = m.1 54 i ∧ I 20 a 7 = m.1 55 i ∧ I 20 a 10 = m.1 59 i ∧ I 20 a 12 = (if m.1 58 i = 0 then 0 else 1)
/-- .. and those that matter while it speaks -/
def sR (m : Mu) (I : kI) (a i : Nat) : Prop := I 20 a 8 = m.1 56 i ∧ I 20 a 9 = m.1 57 i ∧ I 20 a 11 + 1 = m.1 58 i
def relC (m : Mu) (I : kI) (R : kRf) (LP : List Nat) (rc : Nat → Nat) : Prop := m.1 30 10 = nI (mC m) ∧ clF I R LP (mC m) rc ∧ ∀ i, i < mC m → cR m I (rc i) i ∧ (mSpk m i = true → sR m I (rc i) i)
/-- channels -/
def relH (m : Mu) (I : kI) (R : kRf) (rc : Nat → Nat) : Prop := (∀ h, h < 3 → R 14 0 h = (mOn m h).map rc) ∧ ∀ h, h < 3 → I 15 0 h = m.1 64 h
/-- the line and the queue -/
def relL (m : Mu) (I : kI) (R : kRf) (rc : Nat → Nat) (ln qu : List Nat) : Prop := I 2 0 2 = nI ln.length ∧ ln.length ≤ 24 ∧ qu.length = ln.length ∧ arrL R 12 24 (ln.map rc) ∧ arrL R 13 24 (qu.map rc) ∧
  (∀ c, c ∈ ln ↔ c < mC m ∧ mWait m c = true) ∧ (∀ c, c ∈ qu ↔ c ∈ ln) ∧ ln.Pairwise (fun a b => key m a < key m b) ∧ qu.Nodup
/-- log -/
def relG (m : Mu) (I : kI) (lg : Nat) : Prop := m.1 30 27 = nI lg ∧ I 4 0 3 = nI lg ∧ I 4 0 1 = nI (lg % 60) ∧ I 4 0 2 = nI (min lg 60) ∧ ∀ k, k < 60 → I 18 k 0 = m.1 68 k ∧ I 18 k 1 = m.1 69 k ∧ I 18 k 2 = m.1 70 k ∧ narrow .char (.int (m.1 69 k)) = .int (m.1 69 k)
/-- totals -/
def relT (m : Mu) (I : kI) (L : kL) : Prop := I 0 0 6 = m.1 30 26 ∧ I 0 0 7 = m.1 30 21 ∧ I 0 0 10 = m.1 30 22 ∧ L 0 0 8 = m.2 ∧ L 0 0 9 = (m.1 30 23).toInt64
def Rel (m : Mu) (I : kI) (L : kL) (R : kRf) (LP : List Nat) (rc : Nat → Nat) (ln qu : List Nat) (lg : Nat) : Prop := relS m I ∧ relC m I R LP rc ∧ relH m I R rc ∧ relL m I R rc ln qu ∧ relG m I lg ∧ relT m I L
/-- THE VALUE'S OWN INVARIANT; B bounds what only grows -/
def okC (m : Mu) (i : Nat) : Prop := (∃ f t, m.1 51 i = nI f ∧ f < mS m ∧ m.1 52 i = nI t ∧ t < mS m ∧ f ≠ t) ∧ (m.1 53 i = 100 ∨ m.1 53 i = 117 ∨ m.1 53 i = 115 ∨ m.1 53 i = 114) ∧ (m.1 55 i = 119 ∨ m.1 55 i = 115 ∨ m.1 55 i = 101 ∨ m.1 55 i = 99)
def okH (m : Mu) : Prop := ((∀ i, i < mC m → mSpk m i = true → ∃ h, h < 3 ∧ m.1 56 i = nI h) ∧ ∀ i j, i < mC m → j < mC m → mSpk m i = true → mSpk m j = true → m.1 56 i = m.1 56 j → i = j) ∧ (∀ i j, i < mC m → j < mC m → mSpk m i = true → mSpk m j = true → i ≠ j → m.1 57 i &&& m.1 57 j = 0) ∧ (∀ i, i < mC m → mSpk m i = true → m.1 58 i ≠ 0)
def okN (m : Mu) (B : Nat) : Prop := ∃ t b g : Nat, m.1 30 26 = nI t ∧ t ≤ B ∧ m.1 30 21 = nI b ∧ b ≤ B ∧ m.1 30 27 = nI g ∧ g ≤ B ∧ (∀ i, i < mC m → ∃ p : Nat, m.1 60 i = nI p ∧ p ≤ t) ∧ (∀ i, i < mC m → ∃ p : Nat, m.1 58 i = nI p ∧ p ≤ b)
def okS (m : Mu) : Prop := ∀ s, s < mS m → 0 ≤ m.1 41 s ∧ m.1 41 s ≤ 300
/-- .. and what was not touched yet -/
def okZ (m : Mu) : Prop := (∀ i, mC m ≤ i → m.1 58 i = 0 ∧ m.1 59 i = 0) ∧ (∀ s, mS m ≤ s → m.1 43 s = 0) ∧ ∀ s, 0 ≤ m.1 44 s
def cnt58 (m : Mu) : Nat := (List.range (mC m)).countP (fun i => decide (m.1 58 i ≠ 0))
def okA (m : Mu) (B : Nat) : Prop := ∃ t a s : Nat, m.1 30 26 = nI t ∧ t * 4000 ≤ B ∧ m.1 30 22 = nI a ∧ m.1 30 23 = nI s ∧ a ≤ cnt58 m ∧ s ≤ a * t
def Inv (m : Mu) (B : Nat) : Prop := mS m ≤ 10 ∧ okS m ∧ mC m ≤ 150 ∧ (∀ i, i < mC m → okC m i) ∧ okH m ∧ mMany m 119 + mMany m 115 ≤ 24 ∧ okN m B ∧ okZ m ∧ okA m B
section RL
variable {m : Mu} {I : kI} {L : kL} {R : kRf} {LP : List Nat} {rc : Nat → Nat} {ln qu : List Nat} {lg B : Nat}
theorem relH.inLP (hH : relH m I R rc) (hC : relC m I R LP rc) : inLP R 14 3 LP := by
  intro h a hh ha
  rw [hH.1 h hh] at ha
  cases hm : mOn m h with
  | none => rw [hm] at ha; cases ha
  | some c =>
    rw [hm] at ha
    have h1 := List.mem_range.mp (List.mem_of_find?_eq_some hm)
    have h2 : rc c = a := Option.some.inj ha
    rw [← h2]
    exact (hC.2.1.2.2 c h1).2
theorem mOn_some {h c : Nat} (hm : mOn m h = some c) : c < mC m ∧ mSpk m c = true ∧ m.1 56 c = nI h := by
  have h1 := List.mem_range.mp (List.mem_of_find?_eq_some hm)
  have h2 := List.find?_some hm
  simp only [Bool.and_eq_true, decide_eq_true_eq] at h2
  exact ⟨h1, h2⟩
theorem rc_inj (hC : relC m I R LP rc) {i j : Nat} (hi : i < mC m) (hj : j < mC m) (h : rc i = rc j) : i = j := by
  have h1 := (hC.2.2 i hi).1.1
  have h2 := (hC.2.2 j hj).1.1
  rw [h, h2] at h1
  have := hC.2.1.2.1
  exact ((nI_eq (by omega) (by omega)).mp h1).symm
theorem rank_val {u : Int32} (h : u = 100 ∨ u = 117 ∨ u = 115 ∨ u = 114) : wghtF u = 0 ∨ wghtF u = 1 ∨ wghtF u = 2 ∨ wghtF u = 3 := by
  rcases h with rfl | rfl | rfl | rfl <;> decide
theorem brk_eq (hC : relC m I R LP rc) {i j : Nat} (hi : i < mC m) (hj : j < mC m) : brkF I (rc i) (rc j) = mBreak m i j := by
  have h1 := (hC.2.2 i hi).1.2.2.2.2.2.1
  have h2 := (hC.2.2 j hj).1.2.2.2.2.2.1
  unfold brkF mBreak
  rw [h1, h2]
  have e : (2 ≤ mRank m i) ↔ (1 < mRank m i) := by grind
  rw [decide_eq_decide.mpr e]
theorem may_eq (hC : relC m I R LP rc) {i : Nat} (hi : i < mC m) : mayF I (rc i) 0 = decide (mFirst m i = 0) := by
  have h1 := (hC.2.2 i hi).1.2.2.2.2.2.1
  unfold mayF mFirst
  rw [h1]
  by_cases h : 1 < mRank m i
  · have : 2 ≤ mRank m i := by grind
    simp [h, this]
  · have : ¬ 2 ≤ mRank m i := by grind
    simp [h, this]
theorem hav_eq (hC : relC m I R LP rc) {i h : Nat} (hi : i < mC m) : havF I (rc i) ((mOn m h).map rc) = mHav m i (mOn m h) := by
  cases hm : mOn m h with
  | none => rfl
  | some c => exact brk_eq hC hi (mOn_some hm).1
theorem sh_eq (hC : relC m I R LP rc) {h : Nat} {v : Int32} : shF I v ((mOn m h).map rc) = mSh m v (mOn m h) := by
  cases hm : mOn m h with
  | none => rfl
  | some c =>
    have h1 := mOn_some hm
    have h2 := ((hC.2.2 c h1.1).2 h1.2.1).2.1
    show shrF I (rc c) v = _
    unfold shrF mSh
    rw [h2]
theorem tak_eq (hC : relC m I R LP rc) (hH : relH m I R rc) {i : Nat} {v : Int32} (hi : i < mC m) : takF I R (rc i) v = (decide (v ≠ 0) && mTak m i v) := by
  unfold takF mTak
  rw [hH.1 0 (by decide), hH.1 1 (by decide), hH.1 2 (by decide), hav_eq hC hi, hav_eq hC hi, hav_eq hC hi, sh_eq hC, sh_eq hC, sh_eq hC, may_eq hC hi]
  cases decide (v ≠ 0) <;> simp
end RL
