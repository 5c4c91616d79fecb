/-! a call begins -/
section TK
variable {m m' : Mu} {I : kI} {L : kL} {R : kRf} {LP : List Nat} {rc : Nat → Nat} {ln qu : List Nat} {lg B : Nat}
theorem wk_on {w h g : Nat} (hw : mOn m g = some w) (hg : g < 3) (h3 : h < 3) : ∃ k, k < 3 ∧ (k = g ∨ k = h) ∧ mOn m k = some (mWk m w (mOn m h)) := by
  cases ho : mOn m h with
  | none => exact ⟨g, hg, Or.inl rfl, hw⟩
  | some o =>
    unfold mWk
    dsimp only
    split
    · exact ⟨h, h3, Or.inr rfl, ho⟩
    · exact ⟨g, hg, Or.inl rfl, hw⟩
theorem weak_on {c : Nat} (h3 : mFree m c = 3) : ∃ h, h < 3 ∧ (h = 0 → mFirst m c = 0) ∧ mOn m h = some (mWeak m c) := by
  obtain ⟨⟨b, e1⟩, ⟨d, e2⟩, hf⟩ := free3 h3
  unfold mWeak
  rcases mFirst_01 (m := m) (c := c) with q | q
  · obtain ⟨a, e0⟩ := hf q
    rw [if_pos q, e0]
    obtain ⟨k, k3, -, hk⟩ := wk_on (h := 1) e0 (by decide) (by decide)
    obtain ⟨k2, k23, -, hk2⟩ := wk_on (h := 2) hk k3 (by decide)
    exact ⟨k2, k23, fun _ => q, hk2⟩
  · rw [if_neg (by omega), e1]
    obtain ⟨k2, k23, hz, hk2⟩ := wk_on (h := 2) e1 (by decide) (by decide)
    exact ⟨k2, k23, fun z => by omega, hk2⟩
theorem free_le {c : Nat} : mFree m c ≤ 3 := by unfold mFree; split; omega; split; omega; split <;> omega
theorem free_none {c : Nat} (h : mFree m c ≠ 3) : mFree m c < 3 ∧ mOn m (mFree m c) = none := by
  have hl := free_le (m := m) (c := c)
  refine ⟨by omega, ?_⟩
  unfold mFree at h ⊢
  by_cases q : mFirst m c = 0 ∧ mOn m 0 = none
  · rw [if_pos q]; exact q.2
  · rw [if_neg q] at h ⊢
    by_cases q1 : mOn m 1 = none
    · rw [if_pos q1]; exact q1
    · rw [if_neg q1] at h ⊢
      by_cases q2 : mOn m 2 = none
      · rw [if_pos q2]; exact q2
      · rw [if_neg q2] at h; exact absurd rfl h
theorem free_ne {c h : Nat} (h3 : h < 3) (h0 : h = 0 → mFirst m c = 0) (hn : mOn m h = none) : mFree m c ≠ 3 := by
  unfold mFree
  by_cases q : mFirst m c = 0 ∧ mOn m 0 = none
  · rw [if_pos q]; omega
  · rw [if_neg q]
    by_cases q1 : mOn m 1 = none
    · rw [if_pos q1]; omega
    · rw [if_neg q1]
      by_cases q2 : mOn m 2 = none
      · rw [if_pos q2]; omega
      · exfalso
        have : h = 0 ∨ h = 1 ∨ h = 2 := by omega
        rcases this with r | r | r
        · subst r; exact q ⟨h0 rfl, hn⟩
        · subst r; exact q1 hn
        · subst r; exact q2 hn
theorem room_same {c : Nat} : sameI m (mRoom m c) := by
  unfold mRoom; split
  · exact same_int _
  · exact sameI.refl
theorem room_inv {c : Nat} (hI : Inv m B) : Inv (mRoom m c) (B + 1) := by
  unfold mRoom; split
  · next h3 =>
    obtain ⟨h, -, -, hm⟩ := weak_on h3
    exact inv_int hI (mOn_some hm).1 (mOn_some hm).2.1
  · exact hI.mono (Nat.le_succ _)
theorem room_free {c : Nat} (hh : okH m) : mFree (mRoom m c) c ≠ 3 := by
  by_cases h3 : mFree m c = 3
  · have e : mRoom m c = mInt m (mWeak m c) := if_pos h3
    obtain ⟨h, hl, h0, hm⟩ := weak_on h3
    rw [e]
    refine free_ne hl (fun z => by rw [(same_int _).first]; exact h0 z) ?_
    rw [int_on hh hm hl hl, if_pos rfl]
  · have e : mRoom m c = m := if_neg h3
    rw [e]; exact h3
theorem int_sub {c i : Nat} (h : mSpk (mInt m c) i = true) : mSpk m i = true := (int_spk.mp h).1
theorem room_sub {c i : Nat} (h : mSpk (mRoom m c) i = true) : mSpk m i = true := by
  unfold mRoom at h; split at h
  · exact int_sub h
  · exact h
theorem intOn_sub {v : Int32} {h i : Nat} (z : mSpk (mIntOn v h m) i = true) : mSpk m i = true := by
  unfold mIntOn at z
  cases hm : mOn m h with
  | none => rw [hm] at z; exact z
  | some o =>
    rw [hm] at z
    dsimp only at z
    split at z
    · exact int_sub z
    · exact z
/-- the value after the beginning, before the log -/
def tkM (m : Mu) (c : Nat) (v : Int32) : Mu :=
  let a := ms (ms m 56 c (nI (mFree m c))) 57 c v
  let b := mFirstB a c
  let d := ms b 30 21 (b.1 30 21 + 1)
  ms (ms (ms d 58 c (d.1 30 21)) 55 c 115) 45 (d.1 51 c).toNatClampNeg (d.1 30 26)
theorem take_tk (c : Nat) (v : Int32) : mTake m c v = mLog (tkM m c v) 98 (nI c) := rfl
theorem tk_rd (c : Nat) (v : Int32) (k j : Nat) : (tkM m c v).1 k j = if k = 45 then (if j = (m.1 51 c).toNatClampNeg then m.1 30 26 else m.1 45 j) else if k = 55 then (if j = c then 115 else m.1 55 j) else if k = 56 then (if j = c then nI (mFree m c) else m.1 56 j) else if k = 57 then (if j = c then v else m.1 57 j) else if k = 58 then (if j = c then m.1 30 21 + 1 else m.1 58 j) else if k = 30 then (if j = 21 then m.1 30 21 + 1 else if j = 22 then (if m.1 58 c = 0 then m.1 30 22 + 1 else m.1 30 22) else if j = 23 then (if m.1 58 c = 0 then m.1 30 23 + (m.1 30 26 - m.1 60 c) else m.1 30 23) else m.1 30 j) else m.1 k j := by
  have e1 : (ms (ms m 56 c (nI (mFree m c))) 57 c v).1 58 c = m.1 58 c := rfl
  unfold tkM mFirstB
  simp only [e1]
  by_cases q : m.1 58 c = 0
  · simp only [q, if_true]
    simp only [ms]
    grind
  · simp only [q, if_false]
    simp only [ms]
    grind
theorem tk_2 (c : Nat) (v : Int32) : (tkM m c v).2 = m.2 := by
  unfold tkM mFirstB
  dsimp only
  split <;> rfl
theorem tk_o {c k : Nat} {v : Int32} (j : Nat) (h : k ≠ 45 ∧ k ≠ 55 ∧ k ≠ 56 ∧ k ≠ 57 ∧ k ≠ 58 ∧ k ≠ 30) : (tkM m c v).1 k j = m.1 k j := by
  rw [tk_rd]; simp [h]
theorem tk_30 {c j : Nat} {v : Int32} (h : j ≠ 21 ∧ j ≠ 22 ∧ j ≠ 23) : (tkM m c v).1 30 j = m.1 30 j := by
  rw [tk_rd]; simp [h]
theorem tk_C (c : Nat) (v : Int32) : mC (tkM m c v) = mC m := by unfold mC; rw [tk_30 (by decide)]
theorem tk_S (c : Nat) (v : Int32) : mS (tkM m c v) = mS m := by unfold mS; rw [tk_30 (by decide)]
theorem tk_rank (c : Nat) (v : Int32) (i : Nat) : mRank (tkM m c v) i = mRank m i := by unfold mRank; rw [tk_o _ (by decide)]
theorem tk_spk {c i : Nat} {v : Int32} : mSpk (tkM m c v) i = true ↔ mSpk m i = true ∨ i = c := by
  unfold mSpk
  rw [tk_rd]
  by_cases q : i = c <;> simp [q]
theorem tk_wait {c i : Nat} {v : Int32} : mWait (tkM m c v) i = true ↔ mWait m i = true ∧ i ≠ c := by
  unfold mWait
  rw [tk_rd]
  by_cases q : i = c <;> simp [q]
theorem cnt_one {p p' : Nat → Bool} {n c : Nat} (hc : c < n) (h : ∀ i, i < n → i ≠ c → p' i = p i) (h0 : p c = false) (h1 : p' c = true) : (List.range n).countP p' = (List.range n).countP p + 1 := by
  induction n with
  | zero => omega
  | succ n ih =>
    rw [List.range_succ, List.countP_append, List.countP_append]
    by_cases q : c = n
    · subst q
      have e : (List.range c).countP p' = (List.range c).countP p := List.countP_congr fun i hi => by rw [h i (by have := List.mem_range.mp hi; omega) (by have := List.mem_range.mp hi; omega)]
      rw [e]
      simp [h0, h1]
    · rw [ih (by omega) (fun i hi hn => h i (by omega) hn)]
      have e2 : p' n = p n := h n (by omega) (fun z => q z.symm)
      simp [e2]
      omega
theorem nI_sne0 {b : Nat} (h : b + 1 < 2 ^ 31) : nI b + 1 ≠ 0 := by
  rw [nI_1 b]
  intro z
  have := (nI_eq (by omega) (by decide)).mp (z.trans nI_0.symm)
  omega
theorem tk_okH {c : Nat} {v : Int32} (hh : okH m) (hc : c < mC m) (hw : mWait m c = true) (hf : mFree m c ≠ 3) (hd : ∀ i, i < mC m → mSpk m i = true → m.1 57 i &&& v = 0) (h58 : m.1 30 21 + 1 ≠ 0) : okH (tkM m c v) := by
  have hns : mSpk m c = false := by
    unfold mWait at hw
    unfold mSpk
    rw [of_decide_eq_true hw]; rfl
  obtain ⟨hf3, hfn⟩ := free_none hf
  have old : ∀ i, mSpk (tkM m c v) i = true → i ≠ c → mSpk m i = true := fun i h q => (tk_spk.mp h).resolve_right q
  have r56 : ∀ i, i ≠ c → (tkM m c v).1 56 i = m.1 56 i := fun i q => by rw [tk_rd]; simp [q]
  have r57 : ∀ i, i ≠ c → (tkM m c v).1 57 i = m.1 57 i := fun i q => by rw [tk_rd]; simp [q]
  have c56 : (tkM m c v).1 56 c = nI (mFree m c) := by rw [tk_rd]; simp
  have c57 : (tkM m c v).1 57 c = v := by rw [tk_rd]; simp
  have no : ∀ i, i < mC m → mSpk m i = true → m.1 56 i ≠ nI (mFree m c) := by
    intro i hi hs z
    have := (mOn_iff hh).mpr ⟨hi, hs, z⟩
    rw [hfn] at this; cases this
  refine ⟨⟨fun i hi hs => ?_, fun i j hi hj si sj q => ?_⟩, fun i j hi hj si sj q => ?_, fun i hi hs => ?_⟩
  · rw [tk_C] at hi
    by_cases q : i = c
    · exact ⟨mFree m c, hf3, by rw [q, c56]⟩
    · rw [r56 i q]; exact hh.1.1 i hi (old i hs q)
  · rw [tk_C] at hi hj
    by_cases qi : i = c <;> by_cases qj : j = c
    · rw [qi, qj]
    · rw [qi, c56, r56 j qj] at q
      exact absurd q.symm (no j hj (old j sj qj))
    · rw [qj, c56, r56 i qi] at q
      exact absurd q (no i hi (old i si qi))
    · rw [r56 i qi, r56 j qj] at q
      exact hh.1.2 i j hi hj (old i si qi) (old j sj qj) q
  · rw [tk_C] at hi hj
    by_cases qi : i = c <;> by_cases qj : j = c
    · exact absurd (qi.trans qj.symm) q
    · rw [qi, c57, r57 j qj, Int32.and_comm]; exact hd j hj (old j sj qj)
    · rw [qj, c57, r57 i qi]; exact hd i hi (old i si qi)
    · rw [r57 i qi, r57 j qj]; exact hh.2.1 i j hi hj (old i si qi) (old j sj qj) q
  · rw [tk_C] at hi
    rw [tk_rd]
    by_cases qi : i = c
    · simp only [qi, if_true]; exact h58
    · simp [qi]; exact hh.2.2 i hi (old i hs qi)
theorem tk_on {c : Nat} {v : Int32} (hh : okH m) (hh' : okH (tkM m c v)) (hc : c < mC m) (hw : mWait m c = true) (hf : mFree m c ≠ 3) {h : Nat} (h3 : h < 3) : mOn (tkM m c v) h = if h = mFree m c then some c else mOn m h := by
  obtain ⟨hf3, hfn⟩ := free_none hf
  have hns : mSpk m c = false := by
    unfold mWait at hw
    unfold mSpk
    rw [of_decide_eq_true hw]; rfl
  apply Option.ext
  intro d
  rw [mOn_iff hh', tk_C, tk_spk, tk_rd]
  by_cases q : h = mFree m c
  · rw [if_pos q]
    constructor
    · intro ⟨a, b, x⟩
      by_cases e : d = c
      · rw [e]
      · simp [e] at x
        have := (mOn_iff hh).mpr ⟨a, b.resolve_right e, x⟩
        rw [q, hfn] at this; cases this
    · intro z
      rw [← Option.some.inj z]
      exact ⟨hc, Or.inr rfl, by simp [q]⟩
  · rw [if_neg q, mOn_iff hh]
    by_cases e : d = c
    · subst e
      constructor
      · intro ⟨_, _, x⟩
        simp at x
        exact absurd ((nI_eq (by omega) (by omega)).mp x).symm q
      · intro ⟨_, b, _⟩
        rw [hns] at b; cases b
    · simp [e]
theorem tk_inv {c : Nat} {v : Int32} (hI : Inv m B) (hB : B < 2 ^ 30) (hc : c < mC m) (hw : mWait m c = true) (hf : mFree m c ≠ 3) (hd : ∀ i, i < mC m → mSpk m i = true → m.1 57 i &&& v = 0) : Inv (tkM m c v) (B + 1) := by
  obtain ⟨a, b, z, d, e, f, g, i, j⟩ := hI
  have hw2 : m.1 55 c = 119 := of_decide_eq_true hw
  obtain ⟨t, bg, lg, g1, g2, g3, g4, g5, g6, g7, g8⟩ := g
  have h58 : m.1 30 21 + 1 ≠ 0 := by rw [g3]; exact nI_sne0 (by omega)
  refine ⟨by rw [tk_S]; exact a, fun s hs => ?_, by rw [tk_C]; exact z, fun x hx => ?_, tk_okH e hc hw hf hd h58, ?_, ⟨t, bg + 1, lg, ?_, by omega, ?_, by omega, ?_, by omega, fun x hx => ?_, fun x hx => ?_⟩, ⟨fun x hx => ?_, fun s hs => ?_, fun s => ?_⟩, ?_⟩
  · rw [tk_S] at hs; rw [tk_o s (by decide)]; exact b s hs
  · rw [tk_C] at hx
    obtain ⟨⟨f, t, d1, d2, d3, d4, d5⟩, d6, d7⟩ := d x hx
    refine ⟨⟨f, t, by rw [tk_o x (by decide)]; exact d1, by rw [tk_S]; exact d2, by rw [tk_o x (by decide)]; exact d3, by rw [tk_S]; exact d4, d5⟩, by rw [tk_o x (by decide)]; exact d6, ?_⟩
    rw [tk_rd]
    by_cases q : x = c
    · simp [q]
    · simp [q]; exact d7
  · rw [open_eq] at f ⊢
    refine Nat.le_trans (open_le (tk_C c v) fun x hx zz => ?_) f
    rw [tk_rd] at zz
    by_cases q : x = c
    · rw [q]; exact Or.inl hw2
    · simp [q] at zz; exact zz
  · rw [tk_30 (by decide)]; exact g1
  · rw [tk_rd]; simp; rw [g3]; exact nI_1 bg
  · rw [tk_30 (by decide)]; exact g5
  · rw [tk_C] at hx; rw [tk_o x (by decide)]; exact g7 x hx
  · rw [tk_C] at hx
    rw [tk_rd]
    by_cases q : x = c
    · exact ⟨bg + 1, by simp [q]; rw [g3]; exact nI_1 bg, Nat.le_refl _⟩
    · obtain ⟨p, p1, p2⟩ := g8 x hx
      exact ⟨p, by simp [q]; exact p1, by omega⟩
  · rw [tk_C] at hx
    have q : x ≠ c := by omega
    rw [tk_rd, tk_o x (by decide)]
    simp [q]
    exact i.1 x hx
  · rw [tk_S] at hs; rw [tk_o s (by decide)]; exact i.2.1 s hs
  · rw [tk_o s (by decide)]; exact i.2.2 s
  · obtain ⟨t', a', s', j1, j2, j3, j4, j5, j6⟩ := j
    have rd : ∀ i, i ≠ c → (tkM m c v).1 58 i = m.1 58 i := fun i q => by rw [tk_rd]; simp [q]
    have rc58 : (tkM m c v).1 58 c = m.1 30 21 + 1 := by rw [tk_rd]; simp
    by_cases q : m.1 58 c = 0
    · obtain ⟨p, p1, p2⟩ := g7 c hc
      have ett : t' = t := (nI_eq (by omega) (by omega)).mp (j1.symm.trans g1)
      refine ⟨t', a' + 1, s' + (t' - p), by rw [tk_30 (by decide)]; exact j1, by omega, ?_, ?_, ?_, ?_⟩
      · rw [tk_rd]; simp [q]; rw [j3]; exact nI_1 a'
      · rw [tk_rd]; simp [q]; rw [j4, j1, p1, nI_subL (by omega)]; exact nI_add s' (t' - p)
      · unfold cnt58
        rw [tk_C, cnt_one (p := fun i => decide (m.1 58 i ≠ 0)) hc (fun i _ hn => by rw [rd i hn]) (by simp [q]) (by rw [rc58]; simpa using h58)]
        unfold cnt58 at j5; omega
      · rw [Nat.add_mul]; omega
    · refine ⟨t', a', s', by rw [tk_30 (by decide)]; exact j1, by omega, ?_, ?_, ?_, j6⟩
      · rw [tk_rd]; simp [q]; exact j3
      · rw [tk_rd]; simp [q]; exact j4
      · have : cnt58 (tkM m c v) = cnt58 m := by
          unfold cnt58
          rw [tk_C]
          refine List.countP_congr fun i _ => ?_
          by_cases qi : i = c
          · rw [qi, rc58]; simp [q, h58]
          · rw [rd i qi]
        omega
end TK
