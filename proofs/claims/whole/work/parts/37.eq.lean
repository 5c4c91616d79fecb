/-! the class's links, ways and channels are the value's -/
theorem any_congr2 {α : Type} {p q : α → Bool} {l : List α} (h : ∀ a ∈ l, p a = q a) : l.any p = l.any q := by
  induction l with
  | nil => rfl
  | cons a l ih => rw [List.any_cons, List.any_cons, h a List.mem_cons_self, ih (fun b hb => h b (List.mem_cons_of_mem _ hb))]
section GC
variable {adj adj' : Nat → Nat → Bool} {n t : Nat}
theorem gR_congr (h : ∀ a b, a < n → b < n → adj a b = adj' a b) (k : Nat) {s : Nat} (hs : s < n) : gR adj n t k s = gR adj' n t k s := by
  induction k generalizing s with
  | zero => rfl
  | succ k ih =>
    unfold gR
    rw [ih hs]
    congr 1
    refine any_congr2 fun o ho => ?_
    have ho := List.mem_range.mp ho
    rw [h s o hs ho, ih ho]
theorem gD_congr (h : ∀ a b, a < n → b < n → adj a b = adj' a b) {s : Nat} (hs : s < n) : gD adj n t s = gD adj' n t s := by
  unfold gD
  rw [show (fun k => gR adj n t k s) = (fun k => gR adj' n t k s) from funext fun k => gR_congr h k hs]
theorem gNx_congr (h : ∀ a b, a < n → b < n → adj a b = adj' a b) {a : Nat} (ha : a < n) : gNx adj n t a = gNx adj' n t a := by
  unfold gNx
  refine find_congr fun s hs => ?_
  have hs := List.mem_range.mp hs
  rw [h a s ha hs, gD_congr h hs, gD_congr h ha]
theorem gNx_lt {a s : Nat} (h : gNx adj n t a = some s) : s < n := List.mem_range.mp (List.mem_of_find?_eq_some h)
theorem gW_congr (h : ∀ a b, a < n → b < n → adj a b = adj' a b) (f : Nat) {a : Nat} (ha : a < n) : gW adj n t f a = gW adj' n t f a := by
  induction f generalizing a with
  | zero => rfl
  | succ f ih =>
    unfold gW
    rw [gNx_congr h ha]
    by_cases e : a = t
    · rw [if_pos e, if_pos e]
    · rw [if_neg e, if_neg e]
      cases hn : gNx adj' n t a with
      | none => rfl
      | some s => simp only [ih (gNx_lt hn)]
theorem gWay_congr (h : ∀ a b, a < n → b < n → adj a b = adj' a b) {a : Nat} (ha : a < n) : gWay adj n t a = gWay adj' n t a := by
  unfold gWay
  rw [gD_congr h ha, gW_congr h 10 ha]
theorem dS_congr (h : ∀ a b, a < n → b < n → adj a b = adj' a b) (s : Nat) : dS adj n t s = dS adj' n t s := by
  unfold dS
  by_cases hs : s < n
  · rw [gD_congr h hs]
  · rw [if_neg (fun q => hs q.1), if_neg (fun q => hs q.1)]
end GC
section RE
variable {m : Mu} {I : kI} {L : kL} {R : kRf} {LP : List Nat} {rc : Nat → Nat} {ln qu : List Nat} {lg B : Nat}
theorem near_eq (pa pb ra rb : Int32) (h1 : 0 ≤ pa) (h2 : pa ≤ 300) (h3 : 0 ≤ pb) (h4 : pb ≤ 300) : decide (kabs (pa - pb) ≤ kmin ra rb) = !(decide (ra < (if pa < pb then pb - pa else pa - pb)) || decide (rb < (if pa < pb then pb - pa else pa - pb))) := by
  have e : kabs (pa - pb) = (if pa < pb then pb - pa else pa - pb) := by unfold kabs; grind
  rw [e]
  generalize (if pa < pb then pb - pa else pa - pb) = z
  have e2 : z ≤ kmin ra rb ↔ ¬ (ra < z ∨ rb < z) := by unfold kmin; grind
  have e3 : decide (z ≤ kmin ra rb) = decide (¬ (ra < z ∨ rb < z)) := decide_eq_decide.mpr e2
  rw [e3]
  by_cases a : ra < z <;> by_cases b : rb < z <;> simp [a, b]
theorem adj_eq (hS : relS m I) (hok : okS m) {a b : Nat} (ha : a < mS m) (hb : b < mS m) : cAdj I a b = mAdj m a b := by
  obtain ⟨a0, a1, a2⟩ := hS.2.2.2 a ha
  obtain ⟨b0, b1, b2⟩ := hS.2.2.2 b hb
  have oa := hok a ha
  have ob := hok b hb
  unfold cAdj linkB mAdj mFar mApart
  rw [a0, a1, a2, b0, b1, b2, near_eq _ _ _ _ oa.1 oa.2 ob.1 ob.2]
  by_cases h1 : m.1 43 a = 0 <;> by_cases h2 : m.1 43 b = 0 <;> simp [h1, h2]
theorem way_eq (hS : relS m I) (hok : okS m) {f t : Nat} (hf : f < mS m) (ht : t < mS m) : gWay (cAdj I) (mS m) t f = mWay m (nI f) (nI t) := by
  have h10 := hS.2.1.2
  unfold mWay
  rw [nI_toNat (by omega), nI_toNat (by omega)]
  exact gWay_congr (fun a b ha hb => adj_eq hS hok ha hb) hf
theorem way_lt (h10 : mS m ≤ 10) {f t : Nat} (hf : f < mS m) (ht : t < mS m) : ∀ x ∈ mWay m (nI f) (nI t), x < mS m := by
  unfold mWay
  rw [nI_toNat (by omega), nI_toNat (by omega)]
  exact (gWay_le h10 ht hf).2
theorem bits_ne (h10 : mS m ≤ 10) {f t : Nat} (hf : f < mS m) (ht : t < mS m) : mBits m (nI f) (nI t) ≠ 0 ↔ mWay m (nI f) (nI t) ≠ [] := gBits_0 (fun x hx => by have := way_lt h10 hf ht x hx; omega)
/-- the class's test is the value's -/
theorem can_eq (hC : relC m I R LP rc) (hH : relH m I R rc) (h10 : mS m ≤ 10) (hk : ∀ i, i < mC m → okC m i) {i : Nat} (hi : i < mC m) : takF I R (rc i) (mBits m (m.1 51 i) (m.1 52 i)) = mCan m i := by
  rw [tak_eq hC hH hi]
  obtain ⟨⟨f, t, h1, h2, h3, h4, -⟩, -⟩ := hk i hi
  unfold mCan
  rw [h1, h3]
  rw [decide_eq_decide.mpr (bits_ne h10 h2 h4)]
theorem free_eq (hC : relC m I R LP rc) (hH : relH m I R rc) {i : Nat} (hi : i < mC m) : freeF I R (rc i) = (if mFree m i = 3 then -1 else nI (mFree m i)) := by
  have h0 : ∀ h, h < 3 → (R 14 0 h = none ↔ mOn m h = none) := fun h hh => by rw [hH.1 h hh]; simp
  have h1 := may_eq hC hi
  unfold freeF mFree
  simp only [h0 0 (by decide), h0 1 (by decide), h0 2 (by decide), h1, decide_eq_true_eq]
  by_cases a : mOn m 0 = none <;> by_cases b : mFirst m i = 0 <;> by_cases c : mOn m 1 = none <;> by_cases d : mOn m 2 = none <;> simp [a, b, c, d] <;> rfl
theorem lat_n {x y : Int32} {p : Nat} (h : x + 1 = y) (hy : y = nI p) (h0 : y ≠ 0) : ∃ q, p = q + 1 ∧ x = nI q := by
  cases p with
  | zero => exact absurd hy (by rw [nI_0]; exact h0)
  | succ q =>
    refine ⟨q, rfl, ?_⟩
    have h2 : nI q + 1 = nI (q + 1) := nI_1 q
    rw [← hy, ← h] at h2
    grind
theorem eas_eq (hC : relC m I R LP rc) (hok : okN m B) (hh : okH m) (hB : B < 2 ^ 30) {i j : Nat} (hi : i < mC m) (hj : j < mC m) (si : mSpk m i = true) (sj : mSpk m j = true) : easF I (rc i) (rc j) = decide (mRank m i < mRank m j ∨ (mRank m i = mRank m j ∧ m.1 58 j < m.1 58 i)) := by
  have r1 := (hC.2.2 i hi).1.2.2.2.2.2.1
  have r2 := (hC.2.2 j hj).1.2.2.2.2.2.1
  have l1 := ((hC.2.2 i hi).2 si).2.2
  have l2 := ((hC.2.2 j hj).2 sj).2.2
  obtain ⟨t, b, g, -, -, -, hb, -, -, -, hp⟩ := hok
  obtain ⟨p1, e1, u1⟩ := hp i hi
  obtain ⟨p2, e2, u2⟩ := hp j hj
  obtain ⟨q1, z1, y1⟩ := lat_n l1 e1 (hh.2.2 i hi si)
  obtain ⟨q2, z2, y2⟩ := lat_n l2 e2 (hh.2.2 j hj sj)
  unfold easF
  rw [r1, r2, y1, y2, e1, e2]
  have c1 : (nI q2 < nI q1) ↔ (nI p2 < nI p1) := by rw [nI_ltI (by omega) (by omega), nI_ltI (by omega) (by omega)]; omega
  by_cases h : mRank m i = mRank m j
  · rw [if_pos h]
    have : ¬ mRank m i < mRank m j := by rw [h]; grind
    rw [decide_eq_decide]
    simp only [h, true_and]
    constructor
    · intro z; exact Or.inr (c1.mp z)
    · intro z
      rcases z with z | z
      · exact absurd z (by grind)
      · exact c1.mpr z
  · rw [if_neg h, decide_eq_decide]
    simp [h]
end RE
