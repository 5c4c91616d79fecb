/-! the order of the turns -/
section TU
variable {m m' : Mu} {I : kI} {L : kL} {R : kRf} {LP : List Nat} {rc : Nat → Nat} {ln qu : List Nat} {lg B : Nat} {v : Int32}
def wcnt (m : Mu) (q : Nat) : Nat := (List.range (mC m)).countP (fun c => mWait m c && decide (key m c < q))
theorem mTurns_0 (m : Mu) : mTurns 0 m = m := rfl
theorem mTurns_s (f : Nat) (m : Mu) : mTurns (f + 1) m = mTurns f (mTurn (600 - (f + 1)) m) := rfl
def mT (q : Nat) (m : Mu) : Mu := mTurns (600 - q) m
theorem mT_end {q : Nat} (h : 600 ≤ q) : mT q m = m := by unfold mT; rw [show 600 - q = 0 from by omega]; rfl
theorem mT_step {q : Nat} (h : q < 600) : mT q m = mT (q + 1) (mTurn q m) := by
  unfold mT
  rw [show 600 - q = (600 - (q + 1)) + 1 from by omega, mTurns, show 600 - (600 - (q + 1) + 1) = q from by omega]
theorem rank4 {c : Nat} (k : mRank m c = 0 ∨ mRank m c = 1 ∨ mRank m c = 2 ∨ mRank m c = 3) : ∃ r : Nat, r ≤ 3 ∧ mRank m c = nI r ∧ (mRank m c).toInt = r := by
  rcases k with h | h | h | h
  · exact ⟨0, by decide, by rw [h]; rfl, by rw [h]; rfl⟩
  · exact ⟨1, by decide, by rw [h]; rfl, by rw [h]; rfl⟩
  · exact ⟨2, by decide, by rw [h]; rfl, by rw [h]; rfl⟩
  · exact ⟨3, by decide, by rw [h]; rfl, by rw [h]; rfl⟩
theorem key_in (hI : Inv m B) {c : Nat} (hc : c < mC m) : 0 ≤ key m c ∧ key m c < 600 := by
  obtain ⟨r, r3, -, e⟩ := rank4 (rank_in hI.2.2.2.1 hc)
  have := hI.2.2.1
  unfold key
  rw [e]
  omega
theorem key_turn (hI : Inv m B) {c q : Nat} (hc : c < mC m) (hq : q < 600) : key m c = q ↔ c = q % 150 ∧ mRank m c = nI (3 - q / 150) := by
  obtain ⟨r, r3, e1, e⟩ := rank4 (rank_in hI.2.2.2.1 hc)
  have := hI.2.2.1
  unfold key
  rw [e, e1, nI_eq (by omega) (by omega)]
  omega
theorem key_inj (hI : Inv m B) {c d : Nat} (hc : c < mC m) (hd : d < mC m) (h : key m c = key m d) : c = d := by
  have h1 := key_in hI hc
  obtain ⟨q, hq⟩ : ∃ q : Nat, key m c = q := ⟨(key m c).toNat, by omega⟩
  have a := (key_turn hI hc (by omega)).mp hq
  have b := (key_turn hI hd (by omega)).mp (h.symm.trans hq)
  rw [a.1, b.1]
theorem turn_none (hI : Inv m B) {q : Nat} (hq : q < 600) (h : ∀ c, c < mC m → mWait m c = true → key m c ≠ q) : mTurn q m = m := by
  unfold mTurn
  rw [if_neg]
  intro z
  exact h _ z.1 z.2.1 ((key_turn hI z.1 hq).mpr ⟨rfl, z.2.2.1⟩)
theorem turn_no (hI : Inv m B) {q c : Nat} (hq : q < 600) (hc : c < mC m) (hk : key m c = q) (hn : mCan m c = false) : mTurn q m = m := by
  have := (key_turn hI hc hq).mp hk
  unfold mTurn
  rw [← this.1, hn, if_neg]
  intro z; exact absurd z.2.2.2 (by decide)
theorem turn_yes (hI : Inv m B) {q c : Nat} (hq : q < 600) (hc : c < mC m) (hw : mWait m c = true) (hk : key m c = q) (hn : mCan m c = true) : mTurn q m = mBegin m c := by
  have := (key_turn hI hc hq).mp hk
  unfold mTurn
  rw [← this.1, if_pos ⟨hc, hw, this.2, hn⟩]
theorem mT_skip (hI : Inv m B) {q q' : Nat} (h1 : q ≤ q') (h2 : q' ≤ 600) (h : ∀ p : Nat, q ≤ p → p < q' → ∀ c, c < mC m → mWait m c = true → key m c ≠ p) : mT q m = mT q' m := by
  obtain ⟨k, rfl⟩ := Nat.le.dest h1
  induction k with
  | zero => rfl
  | succ k ih =>
    rw [ih (by omega) (by omega) (fun p a b => h p a (by omega)), mT_step (q := q + k) (by omega), turn_none hI (by omega) (h (q + k) (by omega) (by omega))]
    rfl
/-- where a sorted line stands -/
theorem srt_cnt {f : Nat → Int} {q : Int} {l : List Nat} (hp : l.Pairwise (fun a b => f a < f b)) : ∀ j c, l[j]? = some c → (j < l.countP (fun x => decide (f x < q)) ↔ f c < q) := by
  induction l with
  | nil => intro j c h; cases h
  | cons a l ih =>
    intro j c h
    have hp' := List.pairwise_cons.mp hp
    rw [List.countP_cons]
    cases j with
    | zero =>
      have e : a = c := Option.some.inj h
      subst e
      by_cases q1 : f a < q
      · simp [q1]
      · have z : l.countP (fun x => decide (f x < q)) = 0 := List.countP_eq_zero.mpr fun x hx => by have := hp'.1 x hx; simp; omega
        simp [q1]
        intro x hx
        have := hp'.1 x hx
        omega
    | succ j =>
      have h' : l[j]? = some c := h
      have hc := hp'.1 c (List.mem_of_getElem? h')
      have := ih hp'.2 j c h'
      by_cases q1 : f a < q
      · simp [q1]; exact this
      · have z : l.countP (fun x => decide (f x < q)) = 0 := List.countP_eq_zero.mpr fun x hx => by have := hp'.1 x hx; simp; omega
        rw [z]
        simp [q1]
        omega
theorem wcnt_ln (hL : relL m I R rc ln qu) (q : Nat) : wcnt m q = ln.countP (fun x => decide (key m x < q)) := by
  unfold wcnt
  rw [List.countP_eq_length_filter, List.countP_eq_length_filter]
  refine nodup_len (List.nodup_range.filter _) ((ln_nodup hL).filter _) fun x => ?_
  simp only [List.mem_filter, List.mem_range, Bool.and_eq_true, decide_eq_true_eq]
  rw [hL.2.2.2.2.2.1 x, and_assoc]
theorem ln_at (hI : Inv m B) (hL : relL m I R rc ln qu) {q c : Nat} (h : ln[wcnt m q]? = some c) : c < mC m ∧ mWait m c = true ∧ (q : Int) ≤ key m c ∧ ∀ d, d < mC m → mWait m d = true → key m d < key m c → key m d < q := by
  have hs := hL.2.2.2.2.2.2.2.1
  have hm := (hL.2.2.2.2.2.1 c).mp (List.mem_of_getElem? h)
  rw [wcnt_ln hL] at h
  have h1 := srt_cnt (q := (q : Int)) hs _ _ h
  refine ⟨hm.1, hm.2, by have : ¬ key m c < q := fun z => Nat.lt_irrefl _ (h1.mpr z); omega, fun d hd hw hk => ?_⟩
  obtain ⟨j, hj⟩ := List.mem_iff_getElem?.mp ((hL.2.2.2.2.2.1 d).mpr ⟨hd, hw⟩)
  have h2 := srt_cnt (q := (q : Int)) hs _ _ hj
  apply h2.mp
  rcases Nat.lt_trichotomy j (ln.countP (fun x => decide (key m x < q))) with z | z | z
  · exact z
  · rw [z, h] at hj
    rw [Option.some.inj hj] at hk; omega
  · have hl := (List.getElem?_eq_some_iff.mp hj)
    have hl2 := (List.getElem?_eq_some_iff.mp h)
    obtain ⟨p1, p2⟩ := hl
    obtain ⟨p3, p4⟩ := hl2
    have := List.pairwise_iff_getElem.mp hs _ _ p3 p1 z
    rw [p2, p4] at this
    omega
theorem ln_out (hI : Inv m B) (hL : relL m I R rc ln qu) {q : Nat} (h : ln[wcnt m q]? = none) : ∀ d, d < mC m → mWait m d = true → key m d < q := by
  intro d hd hw
  have hs := hL.2.2.2.2.2.2.2.1
  obtain ⟨j, hj⟩ := List.mem_iff_getElem?.mp ((hL.2.2.2.2.2.1 d).mpr ⟨hd, hw⟩)
  rw [wcnt_ln hL] at h
  have h2 := srt_cnt (q := (q : Int)) hs _ _ hj
  apply h2.mp
  have h3 := (List.getElem?_eq_some_iff.mp hj).1
  have h4 := List.getElem?_eq_none_iff.mp h
  omega
/-- those that a beginning interrupts are less urgent -/
theorem wk_le {w : Nat} (r : Option Nat) : mRank m (mWk m w r) ≤ mRank m w ∧ ∀ o, r = some o → mRank m (mWk m w r) ≤ mRank m o := by
  unfold mWk
  cases r with
  | none => exact ⟨Int32.le_refl _, fun o h => by cases h⟩
  | some o =>
    dsimp only
    split
    · next h => exact ⟨by grind, fun p hp => by rw [← Option.some.inj hp]; exact Int32.le_refl _⟩
    · next h => exact ⟨Int32.le_refl _, fun p hp => by rw [← Option.some.inj hp]; grind⟩
theorem weak_le {c h o : Nat} (h3 : mFree m c = 3) (hh : h < 3) (h0 : h = 0 → mFirst m c = 0) (ho : mOn m h = some o) : mRank m (mWeak m c) ≤ mRank m o := by
  obtain ⟨⟨b, e1⟩, ⟨d, e2⟩, hf⟩ := free3 h3
  have w2 := fun w => wk_le (m := m) (w := w) (mOn m 2)
  have w1 := fun w => wk_le (m := m) (w := w) (mOn m 1)
  unfold mWeak
  have : h = 0 ∨ h = 1 ∨ h = 2 := by omega
  rcases mFirst_01 (m := m) (c := c) with q | q
  · obtain ⟨a, e0⟩ := hf q
    rw [if_pos q, e0]
    dsimp only [Option.getD]
    rcases this with r | r | r
    · subst r
      rw [e0] at ho
      rw [← Option.some.inj ho]
      exact Int32.le_trans (w2 _).1 (w1 a).1
    · subst r; exact Int32.le_trans (w2 _).1 ((w1 a).2 o ho)
    · subst r; exact (w2 _).2 o ho
  · rw [if_neg (by omega), e1]
    dsimp only [Option.getD]
    rcases this with r | r | r
    · subst r; have := h0 rfl; omega
    · subst r
      rw [e1] at ho
      rw [← Option.some.inj ho]
      exact (w2 b).1
    · subst r; exact (w2 b).2 o ho
theorem clear_wait' (hh : okH m) (hI : Inv m B) {d : Nat} (hw : mWait (mClear m v) d = true) : mWait m d = true ∨ ∃ h, h < 3 ∧ mOn m h = some d ∧ mSh m v (some d) = true := by
  have sh : ∀ {m1 : Mu}, sameI m m1 → mSh m1 v (some d) = mSh m v (some d) := fun {m1} s => by unfold mSh; dsimp only; rw [s.f d (by decide)]
  have i1 : Inv (mIntOn v 0 m) (B + 1) := intOn_inv hI
  have i2 : Inv (mIntOn v 1 (mIntOn v 0 m)) (B + 2) := intOn_inv i1
  have s1 : sameI m (mIntOn v 0 m) := intOn_same
  have s2 : sameI m (mIntOn v 1 (mIntOn v 0 m)) := s1.trans intOn_same
  have o1 : ∀ g, g < 3 → mOn (mIntOn v 0 m) g = some d → mOn m g = some d := by
    intro g hg z
    rw [intOn_on hh (by decide) hg] at z
    split at z
    · cases z
    · exact z
  have o2 : ∀ g, g < 3 → mOn (mIntOn v 1 (mIntOn v 0 m)) g = some d → mOn m g = some d := by
    intro g hg z
    rw [intOn_on i1.2.2.2.2.1 (by decide) hg] at z
    split at z
    · cases z
    · exact o1 g hg z
  unfold mWait at hw ⊢
  unfold mClear at hw
  have hw := of_decide_eq_true hw
  rcases intOn_55 (m := mIntOn v 1 (mIntOn v 0 m)) (v := v) (h := 2) (i := d) with q | q
  · rw [q] at hw
    rcases intOn_55 (m := mIntOn v 0 m) (v := v) (h := 1) (i := d) with q | q
    · rw [q] at hw
      rcases intOn_55 (m := m) (v := v) (h := 0) (i := d) with q | q
      · rw [q] at hw; exact Or.inl (decide_eq_true hw)
      · exact Or.inr ⟨0, by decide, q.2.1, q.2.2⟩
    · exact Or.inr ⟨1, by decide, o1 1 (by decide) q.2.1, (sh s1) ▸ q.2.2⟩
  · exact Or.inr ⟨2, by decide, o2 2 (by decide) q.2.1, (sh s2) ▸ q.2.2⟩
theorem clear_on (hI : Inv m B) {h : Nat} (h3 : h < 3) : mOn (mClear m v) h = none ∨ mOn (mClear m v) h = mOn m h := by
  have i1 : Inv (mIntOn v 0 m) (B + 1) := intOn_inv hI
  have i2 : Inv (mIntOn v 1 (mIntOn v 0 m)) (B + 2) := intOn_inv i1
  unfold mClear
  rw [intOn_on i2.2.2.2.2.1 (by decide) h3]
  split
  · exact Or.inl rfl
  · rw [intOn_on i1.2.2.2.2.1 (by decide) h3]
    split
    · exact Or.inl rfl
    · rw [intOn_on hI.2.2.2.2.1 (by decide) h3]
      split
      · exact Or.inl rfl
      · exact Or.inr rfl
theorem tak_break {c d h : Nat} (ht : mTak m c v = true) (h3 : h < 3) (ho : mOn m h = some d) (hs : mSh m v (some d) = true) : mBreak m c d = true := by
  unfold mTak at ht
  simp only [Bool.and_eq_true, Bool.or_eq_true, Bool.not_eq_true'] at ht
  obtain ⟨a, b, e, -⟩ := ht
  have : h = 0 ∨ h = 1 ∨ h = 2 := by omega
  rcases this with r | r | r
  · subst r; rw [ho, hs] at a
    rcases a with a | a
    · exact a
    · cases a
  · subst r; rw [ho, hs] at b
    rcases b with b | b
    · exact b
    · cases b
  · subst r; rw [ho, hs] at e
    rcases e with e | e
    · exact e
    · cases e
theorem tak_hav {c : Nat} (ht : mTak m c v = true) : ∃ h, h < 3 ∧ (h = 0 → mFirst m c = 0) ∧ mHav m c (mOn m h) = true := by
  unfold mTak at ht
  simp only [Bool.and_eq_true, Bool.or_eq_true, decide_eq_true_eq] at ht
  rcases ht.2.2.2 with a | a | a
  · exact ⟨0, by decide, fun _ => a.2, a.1⟩
  · exact ⟨1, by decide, fun z => absurd z (by decide), a⟩
  · exact ⟨2, by decide, fun z => absurd z (by decide), a⟩
theorem brk_lt {c d : Nat} (h : mBreak m c d = true) : mRank m d < mRank m c := by
  unfold mBreak at h
  simp only [Bool.and_eq_true, decide_eq_true_eq] at h
  exact h.2
theorem begin_int (hI : Inv m B) {c d : Nat} (ht : mTak m c v = true) (hw : mWait (mRoom (mClear m v) c) d = true) : mWait m d = true ∨ (d < mC m ∧ mRank m d < mRank m c) := by
  have old : mWait (mClear m v) d = true → mWait m d = true ∨ (d < mC m ∧ mRank m d < mRank m c) := by
    intro z
    rcases clear_wait' hI.2.2.2.2.1 hI z with q | ⟨h, h3, ho, hs⟩
    · exact Or.inl q
    · exact Or.inr ⟨mOn_lt ho, brk_lt (tak_break ht h3 ho hs)⟩
  by_cases h3 : mFree (mClear m v) c = 3
  · have er : mRoom (mClear m v) c = mInt (mClear m v) (mWeak (mClear m v) c) := if_pos h3
    rw [er] at hw
    by_cases q : d = mWeak (mClear m v) c
    · right
      obtain ⟨g, g3, -, hg⟩ := weak_on h3
      obtain ⟨h, hl, h0, hv⟩ := tak_hav ht
      refine ⟨by have e := (clear_same (m := m) (v := v)).eC; rw [← e, q]; exact mOn_lt hg, ?_⟩
      have hf : h = 0 → mFirst (mClear m v) c = 0 := fun z => by rw [clear_same.first]; exact h0 z
      cases ho : mOn m h with
      | none =>
        exfalso
        refine free_ne hl hf ?_ h3
        rcases clear_on hI hl (v := v) with z | z
        · exact z
        · rw [z, ho]
      | some o =>
        rw [ho] at hv
        have hb : mRank m o < mRank m c := brk_lt hv
        rcases clear_on hI hl (v := v) with z | z
        · exact absurd h3 (free_ne hl hf z)
        · have := weak_le h3 hl hf (z.trans ho)
          rw [clear_same.rank, clear_same.rank, ← q] at this
          grind
    · refine old ?_
      unfold mWait at hw ⊢
      rw [int_55, if_neg q] at hw
      exact hw
  · have er : mRoom (mClear m v) c = mClear m v := if_neg h3
    rw [er] at hw
    exact old hw
theorem log_rank (k n : Int32) (d : Nat) : mRank (mLog m k n) d = mRank m d := rfl
theorem log_C (k n : Int32) : mC (mLog m k n) = mC m := rfl
theorem log_wait (k n : Int32) (d : Nat) : mWait (mLog m k n) d = mWait m d := rfl
theorem begin_rank (c : Nat) (d : Nat) : mRank (mTake (mRoom (mClear m v) c) c v) d = mRank m d := by
  rw [take_tk, log_rank, tk_rank, (clear_same.trans room_same).rank]
theorem begin_C (c : Nat) : mC (mTake (mRoom (mClear m v) c) c v) = mC m := by
  rw [take_tk, log_C, tk_C, (clear_same.trans room_same).eC]
theorem begin_wait {c d : Nat} : mWait (mTake (mRoom (mClear m v) c) c v) d = true ↔ mWait (mRoom (mClear m v) c) d = true ∧ d ≠ c := by
  rw [take_tk, log_wait]
  exact tk_wait
theorem begin_cnt (hI : Inv m B) {c : Nat} (hc : c < mC m) (hw : mWait m c = true) (ht : mTak m c v = true) {q : Nat} (hq : key m c = q) : wcnt (mTake (mRoom (mClear m v) c) c v) (q + 1) = wcnt m q := by
  unfold wcnt
  rw [begin_C]
  refine List.countP_congr fun d hd => ?_
  have hd := List.mem_range.mp hd
  have ek : key (mTake (mRoom (mClear m v) c) c v) d = key m d := by unfold key; rw [begin_rank]
  simp only [Bool.and_eq_true, decide_eq_true_eq]
  rw [begin_wait, ek]
  constructor
  · intro ⟨⟨a, b⟩, e⟩
    rcases begin_int hI ht a with z | ⟨-, z⟩
    · refine ⟨z, ?_⟩
      have : key m d ≠ key m c := fun y => b (key_inj hI hd hc y)
      omega
    · exfalso
      obtain ⟨r, r3, -, e1⟩ := rank4 (rank_in hI.2.2.2.1 hc)
      obtain ⟨r', r3', -, e2⟩ := rank4 (rank_in hI.2.2.2.1 hd)
      rw [Int32.lt_iff_toInt_lt, e1, e2] at z
      have := hI.2.2.1
      unfold key at hq e
      rw [e1] at hq
      rw [e2] at e
      omega
  · intro ⟨a, b⟩
    exact ⟨⟨room_wait (clear_wait a), fun z => by rw [z] at b; omega⟩, by omega⟩
theorem wcnt_skip {q q' : Nat} (h1 : q ≤ q') (h : ∀ d, d < mC m → mWait m d = true → key m d < q' → key m d < q) : wcnt m q' = wcnt m q := by
  unfold wcnt
  refine List.countP_congr fun d hd => ?_
  have hd := List.mem_range.mp hd
  simp only [Bool.and_eq_true, decide_eq_true_eq]
  constructor
  · intro ⟨a, b⟩; exact ⟨a, h d hd a b⟩
  · intro ⟨a, b⟩; exact ⟨a, by omega⟩
theorem wcnt_next (hI : Inv m B) {c q : Nat} (hc : c < mC m) (hw : mWait m c = true) (hq : key m c = q) : wcnt m (q + 1) = wcnt m q + 1 := by
  unfold wcnt
  refine cnt_one hc (fun i hi hn => ?_) (by simp [hq]) (by simp [hq, hw]; omega)
  have : key m i ≠ key m c := fun z => hn (key_inj hI hi hc z)
  by_cases e : key m i < q
  · have : key m i < ((q + 1 : Nat) : Int) := by omega
    simp only [e, this]
  · have : ¬ key m i < ((q + 1 : Nat) : Int) := by omega
    simp only [e, this]
theorem turn_inv {q : Nat} (hI : Inv m B) (hB : B + 5 < 2 ^ 30) : Inv (mTurn q m) (B + 6) := by
  unfold mTurn
  split
  · next h => exact begin_inv hI hB h.1 h.2.1
  · exact hI.mono (by omega)
theorem turns_inv (f : Nat) {m : Mu} {B : Nat} (hI : Inv m B) (hB : B + 6 * f < 2 ^ 30) : Inv (mTurns f m) (B + 6 * f) := by
  induction f generalizing m B with
  | zero => rw [mTurns_0]; exact hI
  | succ f ih =>
    have := ih (turn_inv (q := 600 - (f + 1)) hI (by omega)) (by omega)
    rw [show B + 6 * (f + 1) = B + 6 + 6 * f from by omega, mTurns_s]
    exact this
theorem speak_inv (hI : Inv m B) (hB : B + 3600 < 2 ^ 30) : Inv (mSpeak m) (B + 3600) := by
  have h := turns_inv 600 hI (by omega)
  rw [show B + 6 * 600 = B + 3600 from by omega] at h
  unfold mSpeak
  exact h
theorem rel_f789 {I' : kI} (hR : Rel m I L R LP rc ln qu lg) (h : f789 I I') : Rel m I' L R LP rc ln qu lg := by
  obtain ⟨hS, hC, hH, hL, hG, hT⟩ := hR
  have e : ∀ k i, k ≠ 7 → k ≠ 8 → k ≠ 9 → I' k i = I k i := h
  refine ⟨?_, ?_, ?_, ?_, ?_, ?_⟩
  · exact relS_c hS (by rw [e 1 0 (by decide) (by decide) (by decide)]) (fun s f => by rw [e 17 s (by decide) (by decide) (by decide)]) rfl (fun s => ⟨rfl, rfl, rfl, rfl, rfl, rfl⟩)
  · refine relC_c hC (by rw [e 0 0 (by decide) (by decide) (by decide)]) (fun _ _ => rfl) rfl (fun i hi => ?_)
    unfold cR sR
    rw [e 20 (rc i) (by decide) (by decide) (by decide)]
    exact hC.2.2 i hi
  · exact ⟨hH.1, fun h h3 => by rw [e 15 0 (by decide) (by decide) (by decide)]; exact hH.2 h h3⟩
  · unfold relL at hL ⊢
    rw [e 2 0 (by decide) (by decide) (by decide)]; exact hL
  · exact relG_c hG (fun f => by rw [e 4 0 (by decide) (by decide) (by decide)]) (fun k f => by rw [e 18 k (by decide) (by decide) (by decide)]) ⟨rfl, fun _ => rfl, fun _ => rfl, fun _ => rfl⟩
  · exact relT_c hT (fun f _ => by rw [e 0 0 (by decide) (by decide) (by decide)]) ⟨rfl, rfl, rfl, rfl, rfl⟩
end TU
