/-! joining ways over stations, as values -/
section FWS
/-- a walk of a length, the stations between its ends below k -/
def gU (adj : Nat → Nat → Bool) (k : Nat) : Nat → Nat → Nat → Prop
  | 0, a, b => a = b
  | L + 1, a, b => ∃ c, adj a c = true ∧ ((c = b ∧ L = 0) ∨ (c < k ∧ gU adj k L c b))
variable {adj : Nat → Nat → Bool} {n : Nat}
theorem gU_mono {k k' L a b : Nat} (hk : k ≤ k') (h : gU adj k L a b) : gU adj k' L a b := by
  induction L generalizing a with
  | zero => exact h
  | succ L ih =>
    obtain ⟨c, h1, h2⟩ := h
    refine ⟨c, h1, ?_⟩
    rcases h2 with h2 | ⟨h2, h3⟩
    · exact Or.inl h2
    · exact Or.inr ⟨by omega, ih h3⟩
theorem gU_split {k L a b : Nat} (h : gU adj (k + 1) L a b) : gU adj k L a b ∨ ∃ L1 L2, gU adj k L1 a k ∧ gU adj k L2 k b ∧ L1 + L2 ≤ L := by
  induction L generalizing a with
  | zero => exact Or.inl h
  | succ L ih =>
    obtain ⟨c, h1, h2⟩ := h
    rcases h2 with h2 | ⟨h2, h3⟩
    · exact Or.inl ⟨c, h1, Or.inl h2⟩
    · by_cases hc : c = k
      · subst hc
        rcases ih h3 with h4 | ⟨L1, L2, h4, h5, h6⟩
        · exact Or.inr ⟨1, L, ⟨c, h1, Or.inl ⟨rfl, rfl⟩⟩, h4, by omega⟩
        · exact Or.inr ⟨1, L2, ⟨c, h1, Or.inl ⟨rfl, rfl⟩⟩, h5, by omega⟩
      · have hck : c < k := by omega
        rcases ih h3 with h4 | ⟨L1, L2, h4, h5, h6⟩
        · exact Or.inl ⟨c, h1, Or.inr ⟨hck, h4⟩⟩
        · exact Or.inr ⟨L1 + 1, L2, ⟨c, h1, Or.inr ⟨hck, h4⟩⟩, h5, by omega⟩
theorem gR_gU {t k s : Nat} (h : gR adj n t k s = true) : ∃ L, L ≤ k ∧ gU adj n L s t := by
  induction k generalizing s with
  | zero => exact ⟨0, Nat.le_refl _, gR_0.mp h⟩
  | succ k ih =>
    rcases gR_s.mp h with h1 | ⟨o, h1, h2, h3⟩
    · obtain ⟨L, h4, h5⟩ := ih h1
      exact ⟨L, by omega, h5⟩
    · obtain ⟨L, h4, h5⟩ := ih h3
      cases L with
      | zero => exact ⟨1, by omega, ⟨o, h2, Or.inl ⟨h5, rfl⟩⟩⟩
      | succ L => exact ⟨L + 1 + 1, by omega, ⟨o, h2, Or.inr ⟨h1, h5⟩⟩⟩
theorem gR_trans {b k x y a : Nat} (hk : k < n) (h1 : gR adj n k x a = true) (h2 : gR adj n b y k = true) : gR adj n b (x + y) a = true := by
  induction x generalizing a with
  | zero =>
    have := gR_0.mp h1
    subst this
    rw [Nat.zero_add]; exact h2
  | succ x ih =>
    rw [Nat.add_right_comm]
    rcases gR_s.mp h1 with h3 | ⟨o, h3, h4, h5⟩
    · exact gR_step (ih h3)
    · exact gR_s.mpr (Or.inr ⟨o, h3, h4, ih h5⟩)
def fInv (adj : Nat → Nat → Bool) (n k : Nat) (J : Nat → Nat → Nat) (done : Nat → Nat → Prop) : Prop := ∀ a b, a < n → b < n → J a b ≤ 1000 ∧ (J a b < 1000 → gR adj n b (J a b) a = true) ∧ (∀ L, gU adj k L a b → J a b ≤ L) ∧ (done a b → ∀ L, gU adj (k + 1) L a b → J a b ≤ L)
theorem fInv_step {k a b : Nat} {J : Nat → Nat → Nat} {done : Nat → Nat → Prop} (h : fInv adj n k J done) (hk : k < n) (ha : a < n) (hb : b < n) :
    fInv adj n k (fun x y => if x = a ∧ y = b then min (J a b) (J a k + J k b) else J x y) (fun x y => done x y ∨ (x = a ∧ y = b)) := by
  intro x y hx hy
  by_cases e : x = a ∧ y = b
  · obtain ⟨rfl, rfl⟩ := e
    obtain ⟨h1, h2, h3, h4⟩ := h x y hx hy
    obtain ⟨g1, g2, g3, g4⟩ := h x k hx hk
    obtain ⟨f1, f2, f3, f4⟩ := h k y hk hy
    simp only [and_self, if_true]
    refine ⟨by omega, fun q => ?_, fun L hL => by have := h3 L hL; omega, fun _ L hL => ?_⟩
    · by_cases c : J x y ≤ J x k + J k y
      · rw [Nat.min_eq_left c] at q ⊢
        exact h2 q
      · rw [Nat.min_eq_right (by omega)] at q ⊢
        exact gR_trans hk (g2 (by omega)) (f2 (by omega))
    · rcases gU_split hL with h5 | ⟨L1, L2, h5, h6, h7⟩
      · have := h3 L h5; omega
      · have := g3 L1 h5
        have := f3 L2 h6
        omega
  · obtain ⟨h1, h2, h3, h4⟩ := h x y hx hy
    simp only [e, if_false]
    refine ⟨h1, h2, h3, fun q => h4 (by rcases q with q | q; exact q; exact q.elim)⟩
theorem fInv_next {k : Nat} {J : Nat → Nat → Nat} {done : Nat → Nat → Prop} (h : fInv adj n k J done) (hd : ∀ a b, a < n → b < n → done a b) : fInv adj n (k + 1) J (fun _ _ => False) := by
  intro a b ha hb
  obtain ⟨h1, h2, h3, h4⟩ := h a b ha hb
  exact ⟨h1, h2, h4 (hd a b ha hb), fun q => q.elim⟩
theorem fInv_init {J : Nat → Nat → Nat} (h : ∀ a b, a < n → b < n → J a b = if a = b then 0 else if adj a b = true then 1 else 1000) : fInv adj n 0 J (fun _ _ => False) := by
  intro a b ha hb
  rw [h a b ha hb]
  refine ⟨by split; omega; split <;> omega, ?_, ?_, fun q => q.elim⟩
  · intro q
    by_cases e : a = b
    · rw [if_pos e]; exact gR_0.mpr e
    · rw [if_neg e] at q ⊢
      by_cases c : adj a b = true
      · rw [if_pos c]; exact gR_s.mpr (Or.inr ⟨b, hb, c, gR_0.mpr rfl⟩)
      · rw [if_neg c] at q; omega
  · intro L hL
    by_cases e : a = b
    · rw [if_pos e]; omega
    · rw [if_neg e]
      cases L with
      | zero => exact absurd hL e
      | succ L =>
        obtain ⟨c, h1, h2⟩ := hL
        rcases h2 with ⟨rfl, -⟩ | ⟨h2, -⟩
        · rw [if_pos h1]; omega
        · omega
theorem fInv_end (hn : n ≤ 10) {J : Nat → Nat → Nat} {done : Nat → Nat → Prop} (h : fInv adj n n J done) {a b : Nat} (ha : a < n) (hb : b < n) : J a b = dS adj n b a := by
  obtain ⟨h1, h2, h3, h4⟩ := h a b ha hb
  have hle : ∀ k, gR adj n b k a = true → J a b ≤ k := by
    intro k hk
    obtain ⟨L, h5, h6⟩ := gR_gU hk
    have := h3 L h6
    omega
  unfold dS
  by_cases hr : ∃ k, gR adj n b k a = true
  · obtain ⟨k, hk⟩ := hr
    have h5 := gD_lt hn hb ha hk
    have h6 := gD_some (adj := adj) (n := n) (t := b) (s := a) rfl (by omega)
    have h7 := hle _ h6.1
    have h8 := h6.2.2 _ (h2 (by omega))
    rw [if_pos ⟨ha, by omega⟩]
    omega
  · have h5 : ¬ J a b < 1000 := fun q => hr ⟨_, h2 q⟩
    have h6 : ¬ gD adj n b a < 99 := fun q => hr ⟨_, (gD_some rfl q).1⟩
    rw [if_neg (fun q => h6 q.2)]
    omega
end FWS
