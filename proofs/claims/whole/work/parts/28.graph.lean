/-! GRAPHS: steps to an end, over any links among n stations; 99 where there is no way -/
section GR
/-- within k steps of the end t -/
def gR (adj : Nat → Nat → Bool) (n t : Nat) : Nat → Nat → Bool
  | 0, s => decide (s = t)
  | k + 1, s => gR adj n t k s || (List.range n).any (fun o => adj s o && gR adj n t k o)
/-- the least number of steps, 99 for none -/
def gD (adj : Nat → Nat → Bool) (n t s : Nat) : Nat := ((List.range n).find? (fun k => gR adj n t k s)).getD 99
variable {adj : Nat → Nat → Bool} {n t : Nat}
theorem gR_0 {s : Nat} : gR adj n t 0 s = true ↔ s = t := by simp [gR]
theorem gR_s {k s : Nat} : gR adj n t (k + 1) s = true ↔ gR adj n t k s = true ∨ ∃ o, o < n ∧ adj s o = true ∧ gR adj n t k o = true := by
  simp [gR]
theorem gR_step {k s : Nat} (h : gR adj n t k s = true) : gR adj n t (k + 1) s = true := gR_s.mpr (Or.inl h)
theorem gR_mono {k m s : Nat} (h : gR adj n t k s = true) (hm : k ≤ m) : gR adj n t m s = true := by
  induction m with
  | zero =>
    have : k = 0 := by omega
    subst this; exact h
  | succ m ih =>
    by_cases e : k = m + 1
    · subst e; exact h
    · exact gR_step (ih (by omega))
/-- once nothing new comes, nothing comes any more -/
theorem gR_stable {j : Nat} (h : ∀ s, s < n → gR adj n t (j + 1) s = true → gR adj n t j s = true) (k s : Nat) (hs : s < n) (hk : gR adj n t k s = true) : gR adj n t j s = true := by
  induction k generalizing s with
  | zero => exact gR_mono hk (Nat.zero_le _)
  | succ k ih =>
    rcases gR_s.mp hk with h1 | ⟨o, h1, h2, h3⟩
    · exact ih s hs h1
    · exact h s hs (gR_s.mpr (Or.inr ⟨o, h1, h2, ih o h1 h3⟩))
theorem countP_lt {α : Type} {p q : α → Bool} {l : List α} (h : ∀ a ∈ l, p a = true → q a = true) (a : α) (ha : a ∈ l) (hp : p a = false) (hq : q a = true) : l.countP p < l.countP q := by
  induction l with
  | nil => cases ha
  | cons b l ih =>
    rw [List.countP_cons, List.countP_cons]
    have hl : ∀ a ∈ l, p a = true → q a = true := fun a h1 => h a (List.mem_cons_of_mem _ h1)
    rcases List.mem_cons.mp ha with rfl | h1
    · have := List.countP_mono_left (l := l) (p := p) (q := q) (fun x hx => hl x hx)
      rw [hp, hq]
      simp
      omega
    · have h2 := ih hl h1
      have h3 := h b List.mem_cons_self
      cases hb : p b
      · simp
        omega
      · rw [h3 hb]
        simp
        omega
theorem gR_count (ht : t < n) (k : Nat) : k + 1 ≤ (List.range n).countP (fun s => gR adj n t k s) ∨ ∃ j, j < k ∧ ∀ s, s < n → gR adj n t (j + 1) s = true → gR adj n t j s = true := by
  induction k with
  | zero =>
    left
    have : 0 < (List.range n).countP (fun s => gR adj n t 0 s) := List.countP_pos_iff.mpr ⟨t, List.mem_range.mpr ht, gR_0.mpr rfl⟩
    omega
  | succ k ih =>
    rcases ih with h | ⟨j, h1, h2⟩
    · by_cases hst : ∀ s, s < n → gR adj n t (k + 1) s = true → gR adj n t k s = true
      · exact Or.inr ⟨k, Nat.lt_succ_self k, hst⟩
      · left
        have ⟨s, hs⟩ := Classical.not_forall.mp hst
        have ⟨h3, hs⟩ := Classical.not_imp.mp hs
        have ⟨h4, h5⟩ := Classical.not_imp.mp hs
        have := countP_lt (p := fun s => gR adj n t k s) (q := fun s => gR adj n t (k + 1) s) (l := List.range n) (fun a _ ha => gR_step ha) s (List.mem_range.mpr h3) (by simpa using h5) h4
        omega
    · exact Or.inr ⟨j, by omega, h2⟩
/-- n - 1 steps are enough -/
theorem gR_enough (ht : t < n) {k s : Nat} (hs : s < n) (h : gR adj n t k s = true) : gR adj n t (n - 1) s = true := by
  rcases gR_count (adj := adj) (n := n) ht n with h1 | ⟨j, h1, h2⟩
  · have := List.countP_le_length (p := fun s => gR adj n t n s) (l := List.range n)
    rw [List.length_range] at this
    omega
  · exact gR_mono (gR_stable h2 k s hs h) (by omega)
theorem gD_some {s d : Nat} (h : gD adj n t s = d) (hd : d < 99) : gR adj n t d s = true ∧ d < n ∧ ∀ k, gR adj n t k s = true → d ≤ k := by
  unfold gD at h
  cases hf : (List.range n).find? (fun k => gR adj n t k s) with
  | none => rw [hf] at h; simp at h; omega
  | some x =>
    rw [hf] at h
    simp at h
    subst h
    have h1 := List.find?_some hf
    have h2 := List.mem_of_find?_eq_some hf
    refine ⟨h1, List.mem_range.mp h2, fun k hk => ?_⟩
    by_cases hkx : x ≤ k
    · exact hkx
    · exfalso
      rw [List.find?_range_eq_some] at hf
      have h3 := hf.2.2 k (by omega)
      simp at h3
      rw [h3] at hk
      cases hk
theorem gD_lt (hn : n ≤ 10) (ht : t < n) {s k : Nat} (hs : s < n) (h : gR adj n t k s = true) : gD adj n t s < n := by
  have h1 := gR_enough ht hs h
  unfold gD
  cases hf : (List.range n).find? (fun k => gR adj n t k s) with
  | none => exact absurd h1 ((List.find?_eq_none.mp hf) (n - 1) (List.mem_range.mpr (by omega)))
  | some x => exact List.mem_range.mp (List.mem_of_find?_eq_some hf)
theorem gD_eq (hn : n ≤ 10) (ht : t < n) {s d : Nat} (hs : s < n) (h1 : d < 99 → gR adj n t d s = true) (h2 : ∀ k, gR adj n t k s = true → d ≤ k) (h3 : ¬ d < 99 → d = 99) : gD adj n t s = d := by
  by_cases hd : d < 99
  · have h4 := gD_lt hn ht hs (h1 hd)
    have h5 := gD_some (adj := adj) (n := n) (t := t) (s := s) rfl (by omega)
    have h6 := h5.2.2 d (h1 hd)
    have h7 := h2 _ h5.1
    omega
  · have hd2 := h3 hd
    subst hd2
    unfold gD
    cases hf : (List.range n).find? (fun k => gR adj n t k s) with
    | none => rfl
    | some x =>
      have h4 := h2 x (List.find?_some (p := fun k => gR adj n t k s) hf)
      have h5 := List.mem_range.mp (List.mem_of_find?_eq_some hf)
      omega
theorem gD_end (hn : n ≤ 10) (ht : t < n) : gD adj n t t = 0 := gD_eq hn ht ht (fun _ => gR_0.mpr rfl) (fun _ _ => Nat.zero_le _) (by omega)
theorem gD_zero {s : Nat} (h : gD adj n t s = 0) : s = t := gR_0.mp (gD_some h (by omega)).1
theorem gD_or (hn : n ≤ 10) (ht : t < n) {s : Nat} (hs : s < n) : gD adj n t s < n ∨ gD adj n t s = 99 := by
  by_cases h : gD adj n t s < 99
  · exact Or.inl (gD_some rfl h).2.1
  · right
    by_cases hk : ∃ k, gR adj n t k s = true
    · obtain ⟨k, hk⟩ := hk
      have := gD_lt hn ht hs hk
      omega
    · unfold gD
      cases hf : (List.range n).find? (fun k => gR adj n t k s) with
      | none => rfl
      | some x => exact absurd ⟨x, List.find?_some (p := fun k => gR adj n t k s) hf⟩ hk
/-- from where there is a way, there is a next station -/
theorem gD_next (hn : n ≤ 10) (ht : t < n) {s d : Nat} (hs : s < n) (h : gD adj n t s = d + 1) (hd : d + 1 < 99) : ∃ o, o < n ∧ adj s o = true ∧ gD adj n t o = d := by
  obtain ⟨h1, h2, h3⟩ := gD_some h hd
  rcases gR_s.mp h1 with h4 | ⟨o, h4, h5, h6⟩
  · exact absurd (h3 d h4) (by omega)
  · refine ⟨o, h4, h5, gD_eq hn ht h4 (fun _ => h6) (fun k hk => ?_) (by omega)⟩
    have h7 := h3 (k + 1) (gR_s.mpr (Or.inr ⟨o, h4, h5, hk⟩))
    omega
/-- the next station of a way, the lowest one -/
def gNx (adj : Nat → Nat → Bool) (n t a : Nat) : Option Nat := (List.range n).find? (fun s => adj a s && decide (gD adj n t s + 1 = gD adj n t a))
/-- the way from a station, f more stations at most -/
def gW (adj : Nat → Nat → Bool) (n t : Nat) : Nat → Nat → List Nat
  | 0, _ => []
  | f + 1, a => if a = t then [a] else match gNx adj n t a with
    | none => []
    | some s => a :: gW adj n t f s
def gWay (adj : Nat → Nat → Bool) (n t a : Nat) : List Nat := if gD adj n t a < 99 then gW adj n t 10 a else []
theorem gNx_some (hn : n ≤ 10) (ht : t < n) {a d : Nat} (ha : a < n) (h : gD adj n t a = d + 1) (hd : d + 1 < 99) : ∃ s, gNx adj n t a = some s ∧ s < n ∧ adj a s = true ∧ gD adj n t s = d := by
  obtain ⟨o, h1, h2, h3⟩ := gD_next hn ht ha h hd
  unfold gNx
  cases hf : (List.range n).find? (fun s => adj a s && decide (gD adj n t s + 1 = gD adj n t a)) with
  | none =>
    have := List.find?_eq_none.mp hf o (List.mem_range.mpr h1)
    simp [h2, h3, h] at this
  | some s =>
    have h4 := List.find?_some hf
    have h5 := List.mem_range.mp (List.mem_of_find?_eq_some hf)
    simp at h4
    exact ⟨s, rfl, h5, h4.1, by omega⟩
theorem gW_len (hn : n ≤ 10) (ht : t < n) (f : Nat) {a d : Nat} (ha : a < n) (h : gD adj n t a = d) (hd : d < 99) (hf : d < f) : (gW adj n t f a).length = d + 1 ∧ (∀ s ∈ gW adj n t f a, s < n) ∧ (gW adj n t f a)[0]? = some a := by
  induction f generalizing a d with
  | zero => omega
  | succ f ih =>
    unfold gW
    by_cases e : a = t
    · subst e
      have := gD_end (adj := adj) hn ht
      rw [if_pos rfl]
      refine ⟨by simp; omega, fun s hs => ?_, rfl⟩
      rw [List.mem_singleton.mp hs]; exact ha
    · rw [if_neg e]
      cases d with
      | zero => exact absurd (gD_zero h) e
      | succ d =>
        obtain ⟨s, h1, h2, h3, h4⟩ := gNx_some hn ht ha h hd
        rw [h1]
        obtain ⟨i1, i2, i3⟩ := ih h2 h4 (by omega) (by omega)
        refine ⟨by simp [i1], fun x hx => ?_, rfl⟩
        rcases List.mem_cons.mp hx with rfl | hx
        · exact ha
        · exact i2 x hx
theorem gWay_len (hn : n ≤ 10) (ht : t < n) {a : Nat} (ha : a < n) (h : gD adj n t a < 99) : (gWay adj n t a).length = gD adj n t a + 1 ∧ (∀ s ∈ gWay adj n t a, s < n) ∧ (gWay adj n t a)[0]? = some a := by
  unfold gWay
  rw [if_pos h]
  have := (gD_some rfl h).2.1
  exact gW_len hn ht 10 ha rfl h (by omega)
/-- the stations of a way as the bits of a number -/
def gBits (l : List Nat) : Int32 := l.foldl (fun b s => b ||| ((1 : Int32) <<< (nI s &&& 31))) 0
end GR
