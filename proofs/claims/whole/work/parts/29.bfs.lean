/-! the search by a queue, as values -/
section BF
variable {adj : Nat → Nat → Bool} {ns e : Nat}
theorem nd_full {l : List Nat} {n : Nat} (hn : l.Nodup) (hl : ∀ x ∈ l, x < n) (hle : n ≤ l.length) : ∀ s, s < n → s ∈ l := by
  induction n generalizing l with
  | zero => intro s hs; omega
  | succ n ih =>
    by_cases h : n ∈ l
    · have h1 : (l.erase n).Nodup := hn.erase n
      have h2 : ∀ x ∈ l.erase n, x < n := by
        intro x hx
        have h3 := (List.Nodup.mem_erase_iff hn).mp hx
        have := hl x h3.2
        have := h3.1
        omega
      have h4 := ih h1 h2 (by rw [List.length_erase_of_mem h]; omega)
      intro s hs
      by_cases e : s = n
      · subst e; exact h
      · exact List.mem_of_mem_erase (h4 s (by omega))
    · exfalso
      have h2 : ∀ x ∈ l, x < n := by
        intro x hx
        have := hl x hx
        have : x ≠ n := fun e => h (e ▸ hx)
        omega
      have h5 : l.length ≤ n := by
        have h6 : ∀ (m : Nat) (l : List Nat), l.Nodup → (∀ x ∈ l, x < m) → l.length ≤ m := by
          intro m
          induction m with
          | zero =>
            intro l _ h
            cases l with
            | nil => simp
            | cons a l => exact absurd (h a List.mem_cons_self) (by omega)
          | succ m ihm =>
            intro l hnd h
            by_cases hm : m ∈ l
            · have := ihm (l.erase m) (hnd.erase m) (fun x hx => by
                have h3 := (List.Nodup.mem_erase_iff hnd).mp hx
                have := h x h3.2
                have := h3.1
                omega)
              rw [List.length_erase_of_mem hm] at this
              omega
            · have := ihm l hnd (fun x hx => by
                have := h x hx
                have : x ≠ m := fun e => hm (e ▸ hx)
                omega)
              omega
        exact h6 n l hn h2
      omega
theorem nd_len {l : List Nat} {n : Nat} (hn : l.Nodup) (hl : ∀ x ∈ l, x < n) : l.length ≤ n := by
  rcases Nat.lt_or_ge n l.length with h | h
  · have h1 := nd_full hn (n := n + 1) (fun x hx => by have := hl x hx; omega) (by omega) n (by omega)
    exact absurd (hl n h1) (by omega)
  · exact h
def bInv (adj : Nat → Nat → Bool) (ns e : Nat) (Q : List Nat) (v : Nat → Nat) (p : Nat) : Prop :=
  Q.Nodup ∧ (∀ x ∈ Q, x < ns) ∧ Q[0]? = some e ∧ v e = 0 ∧ (∀ x ∈ Q, gR adj ns e (v x) x = true) ∧ (∀ x, x ∉ Q → v x = 1000) ∧
  (∀ (i j x y : Nat), i ≤ j → Q[i]? = some x → Q[j]? = some y → v x ≤ v y) ∧ (∀ (i x : Nat), Q[i]? = some x → v x ≤ i) ∧ (∀ (x y : Nat), x ∈ Q → Q[p]? = some y → v x ≤ v y + 1) ∧
  (∀ (i o s : Nat), i < p → Q[i]? = some o → s < ns → adj s o = true → s ∈ Q ∧ v s ≤ v o + 1)
theorem bInv_init (he : e < ns) : bInv adj ns e [e] (fun s => if s = e then 0 else 1000) 0 := by
  refine ⟨by simp, by simp [he], rfl, by simp, ?_, ?_, ?_, ?_, ?_, fun i o s h => absurd h (by omega)⟩
  · intro x hx
    have := List.mem_singleton.mp hx
    subst this
    simp only [if_true]
    exact gR_0.mpr rfl
  · intro x hx
    exact if_neg (by simpa using hx)
  · intro i j x y _ hx hy
    have h1 := List.mem_singleton.mp (List.mem_of_getElem? hx)
    subst h1
    simp
  · intro i x hx
    have h1 := List.mem_singleton.mp (List.mem_of_getElem? hx)
    subst h1
    simp
  · intro x y hx _
    have h1 := List.mem_singleton.mp hx
    subst h1
    simp
theorem bInv_add {Q : List Nat} {v : Nat → Nat} {p o s : Nat} (h : bInv adj ns e Q v p) (ho : Q[p]? = some o) (hs : s < ns) (hq : s ∉ Q) (ha : adj s o = true) : bInv adj ns e (Q ++ [s]) (va_up v s (v o + 1)) p := by
  obtain ⟨h1, h2, h3, h4, h5, h6, h7, h8, h9, h10⟩ := h
  have hoQ : o ∈ Q := List.mem_of_getElem? ho
  have hp : p < Q.length := (List.getElem?_eq_some_iff.mp ho).1
  have e0 : e ∈ Q := List.mem_of_getElem? h3
  have nv : ∀ x, x ∈ Q → va_up v s (v o + 1) x = v x := fun x hx => by unfold va_up; exact if_neg (fun q : x = s => hq (q ▸ hx))
  have sv : va_up v s (v o + 1) s = v o + 1 := by unfold va_up; rw [if_pos rfl]
  have app : ∀ i x, (Q ++ [s])[i]? = some x → (i < Q.length ∧ Q[i]? = some x) ∨ (i = Q.length ∧ x = s) := by
    intro i x hx
    rcases Nat.lt_or_ge i Q.length with hi | hi
    · rw [List.getElem?_append_left hi] at hx; exact Or.inl ⟨hi, hx⟩
    · rw [List.getElem?_append_right hi] at hx
      have : i - Q.length < 1 := (List.getElem?_eq_some_iff.mp hx).1
      have e9 : i = Q.length := by omega
      subst e9
      rw [Nat.sub_self] at hx
      exact Or.inr ⟨rfl, (Option.some.inj hx).symm⟩
  refine ⟨?_, ?_, ?_, ?_, ?_, ?_, ?_, ?_, ?_, ?_⟩
  · rw [List.nodup_append]
    refine ⟨h1, by simp, ?_⟩
    intro a ha b hb
    rw [List.mem_singleton.mp hb]
    exact fun q => hq (q ▸ ha)
  · intro x hx
    rcases List.mem_append.mp hx with hx | hx
    · exact h2 x hx
    · rw [List.mem_singleton.mp hx]; exact hs
  · rw [List.getElem?_append_left (by omega)]; exact h3
  · rw [nv e e0]; exact h4
  · intro x hx
    rcases List.mem_append.mp hx with hx | hx
    · rw [nv x hx]; exact h5 x hx
    · rw [List.mem_singleton.mp hx, sv]
      exact gR_s.mpr (Or.inr ⟨o, h2 o hoQ, ha, h5 o hoQ⟩)
  · intro x hx
    have hx1 : x ∉ Q := fun q => hx (List.mem_append_left _ q)
    have hx2 : x ≠ s := fun q => hx (List.mem_append_right _ (by simp [q]))
    unfold va_up
    exact (if_neg hx2).trans (h6 x hx1)
  · intro i j x y hij hx hy
    rcases app i x hx with ⟨i1, i2⟩ | ⟨i1, i2⟩ <;> rcases app j y hy with ⟨j1, j2⟩ | ⟨j1, j2⟩
    · rw [nv x (List.mem_of_getElem? i2), nv y (List.mem_of_getElem? j2)]; exact h7 i j x y hij i2 j2
    · rw [nv x (List.mem_of_getElem? i2), j2, sv]; exact h9 x o (List.mem_of_getElem? i2) ho
    · omega
    · rw [i2, j2]; exact Nat.le_refl _
  · intro i x hx
    rcases app i x hx with ⟨i1, i2⟩ | ⟨i1, i2⟩
    · rw [nv x (List.mem_of_getElem? i2)]; exact h8 i x i2
    · rw [i2, sv]
      have := h8 p o ho
      omega
  · intro x y hx hy
    rw [List.getElem?_append_left hp] at hy
    have : y = o := Option.some.inj (hy.symm.trans ho)
    subst this
    rw [nv y hoQ]
    rcases List.mem_append.mp hx with hx | hx
    · rw [nv x hx]; exact h9 x y hx ho
    · rw [List.mem_singleton.mp hx, sv]; exact Nat.le_refl _
  · intro i o2 s2 hi h11 h12 h13
    rw [List.getElem?_append_left (by omega)] at h11
    obtain ⟨g1, g2⟩ := h10 i o2 s2 hi h11 h12 h13
    exact ⟨List.mem_append_left _ g1, by rw [nv s2 g1, nv o2 (List.mem_of_getElem? h11)]; exact g2⟩
theorem bInv_next {Q : List Nat} {v : Nat → Nat} {p o : Nat} (h : bInv adj ns e Q v p) (ho : Q[p]? = some o) (hall : ∀ s, s < ns → adj s o = true → s ∈ Q) : bInv adj ns e Q v (p + 1) := by
  obtain ⟨h1, h2, h3, h4, h5, h6, h7, h8, h9, h10⟩ := h
  refine ⟨h1, h2, h3, h4, h5, h6, h7, h8, ?_, ?_⟩
  · intro x y hx hy
    have := h9 x o hx ho
    have := h7 p (p + 1) o y (by omega) ho hy
    omega
  · intro i o2 s hi h11 h12 h13
    by_cases hip : i = p
    · subst hip
      have : o2 = o := Option.some.inj (h11.symm.trans ho)
      subst this
      have := hall s h12 h13
      exact ⟨this, h9 s o2 this ho⟩
    · exact h10 i o2 s (by omega) h11 h12 h13
/-- what the arrays of the class hold: 1000 where there is no way -/
def dS (adj : Nat → Nat → Bool) (ns e s : Nat) : Nat := if s < ns ∧ gD adj ns e s < 99 then gD adj ns e s else 1000
theorem bInv_end (hns : ns ≤ 10) (he : e < ns) {Q : List Nat} {v : Nat → Nat} {p : Nat} (h : bInv adj ns e Q v p) (hp : Q.length ≤ p) (s : Nat) : v s = dS adj ns e s := by
  obtain ⟨h1, h2, h3, h4, h5, h6, h7, h8, h9, h10⟩ := h
  have hr : ∀ k s, s < ns → gR adj ns e k s = true → s ∈ Q ∧ v s ≤ k := by
    intro k
    induction k with
    | zero =>
      intro s _ hk
      have := gR_0.mp hk
      subst this
      exact ⟨List.mem_of_getElem? h3, by omega⟩
    | succ k ih =>
      intro s hs hk
      rcases gR_s.mp hk with hk | ⟨o, k1, k2, k3⟩
      · obtain ⟨g1, g2⟩ := ih s hs hk
        exact ⟨g1, by omega⟩
      · obtain ⟨g1, g2⟩ := ih o k1 k3
        obtain ⟨i, hi⟩ := List.getElem?_of_mem g1
        have hil := (List.getElem?_eq_some_iff.mp hi).1
        obtain ⟨g3, g4⟩ := h10 i o s (by omega) hi hs k2
        exact ⟨g3, by omega⟩
  have hQl := nd_len h1 h2
  unfold dS
  by_cases hs : s ∈ Q
  · have hsn := h2 s hs
    obtain ⟨i, hi⟩ := List.getElem?_of_mem hs
    have hil := (List.getElem?_eq_some_iff.mp hi).1
    have h11 := h8 i s hi
    have := gD_eq hns he hsn (d := v s) (fun _ => h5 s hs) (fun k hk => (hr k s hsn hk).2) (by omega)
    rw [this, if_pos ⟨hsn, by omega⟩]
  · rw [h6 s hs]
    by_cases hsn : s < ns
    · have := gD_eq hns he hsn (d := 99) (fun h => absurd h (by omega)) (fun k hk => absurd (hr k s hsn hk).1 hs) (fun _ => rfl)
      rw [this]
      rw [if_neg (by omega)]
    · rw [if_neg (fun q => hsn q.1)]
end BF
