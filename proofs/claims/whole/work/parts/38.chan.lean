/-! who speaks on which channel; how many are open -/
section CH
variable {m m' : Mu} {I : kI} {L : kL} {R : kRf} {LP : List Nat} {rc : Nat → Nat} {ln qu : List Nat} {lg B : Nat}
theorem mOn_iff (hh : okH m) {h c : Nat} : mOn m h = some c ↔ c < mC m ∧ mSpk m c = true ∧ m.1 56 c = nI h := by
  constructor
  · exact mOn_some
  · intro ⟨h1, h2, h3⟩
    cases hm : mOn m h with
    | none =>
      have := (List.find?_eq_none.mp hm) c (List.mem_range.mpr h1)
      simp [h2, h3] at this
    | some d =>
      have h4 := mOn_some hm
      rw [hh.1.2 d c h4.1 h1 h4.2.1 h2 (by rw [h4.2.2, h3])]
theorem mOn_spk (hh : okH m) {c : Nat} (h1 : c < mC m) (h2 : mSpk m c = true) : ∃ h, h < 3 ∧ m.1 56 c = nI h ∧ mOn m h = some c := by
  obtain ⟨h, h3, h4⟩ := hh.1.1 c h1 h2
  exact ⟨h, h3, h4, (mOn_iff hh).mpr ⟨h1, h2, h4⟩⟩
theorem mOn_inj {h h' c : Nat} (a : mOn m h = some c) (b : mOn m h' = some c) (h1 : h < 3) (h2 : h' < 3) : h = h' := by
  have e := (mOn_some a).2.2
  rw [(mOn_some b).2.2] at e
  exact ((nI_eq (by omega) (by omega)).mp e).symm
theorem mOn_congr (hh : okH m) (hh' : okH m') {h : Nat} (e : ∀ c, (c < mC m' ∧ mSpk m' c = true ∧ m'.1 56 c = nI h) ↔ (c < mC m ∧ mSpk m c = true ∧ m.1 56 c = nI h)) : mOn m' h = mOn m h := by
  apply Option.ext
  intro c
  rw [mOn_iff hh, mOn_iff hh', e c]
theorem okH_sub (hh : okH m) (hc : mC m' = mC m) (e : ∀ i, i < mC m → mSpk m' i = true → mSpk m i = true ∧ m'.1 56 i = m.1 56 i ∧ m'.1 57 i = m.1 57 i ∧ m'.1 58 i = m.1 58 i) : okH m' := by
  refine ⟨⟨fun i hi hs => ?_, fun i j hi hj si sj q => ?_⟩, fun i j hi hj si sj q => ?_, fun i hi hs => ?_⟩
  · rw [hc] at hi
    obtain ⟨a, b, -⟩ := e i hi hs
    rw [b]; exact hh.1.1 i hi a
  · rw [hc] at hi hj
    obtain ⟨a, b, -⟩ := e i hi si
    obtain ⟨a', b', -⟩ := e j hj sj
    exact hh.1.2 i j hi hj a a' (by rw [← b, ← b', q])
  · rw [hc] at hi hj
    obtain ⟨a, -, b, -⟩ := e i hi si
    obtain ⟨a', -, b', -⟩ := e j hj sj
    rw [b, b']; exact hh.2.1 i j hi hj a a' q
  · rw [hc] at hi
    obtain ⟨a, -, -, b⟩ := e i hi hs
    rw [b]; exact hh.2.2 i hi a
/-- one stops speaking -/
theorem mOn_stop (hh : okH m) (hh' : okH m') (hc : mC m' = mC m) {c h0 : Nat} (hm : mOn m h0 = some c) (h03 : h0 < 3) (e : ∀ i, i < mC m → (mSpk m' i = true ↔ mSpk m i = true ∧ i ≠ c)) (e2 : ∀ i, i ≠ c → m'.1 56 i = m.1 56 i) {h : Nat} (h3 : h < 3) : mOn m' h = if h = h0 then none else mOn m h := by
  have hs := mOn_some hm
  apply Option.ext
  intro d
  rw [mOn_iff hh', hc]
  by_cases q : h = h0
  · rw [if_pos q]
    constructor
    · intro ⟨a, b, x⟩
      have b2 := (e d a).mp b
      rw [e2 d b2.2] at x
      have : mOn m h = some d := (mOn_iff hh).mpr ⟨a, b2.1, x⟩
      rw [q, hm] at this
      exact absurd (Option.some.inj this).symm b2.2
    · intro z; cases z
  · rw [if_neg q, mOn_iff hh]
    constructor
    · intro ⟨a, b, x⟩
      have b2 := (e d a).mp b
      rw [e2 d b2.2] at x
      exact ⟨a, b2.1, x⟩
    · intro ⟨a, b, x⟩
      have dc : d ≠ c := by
        intro z
        rw [z, hs.2.2] at x
        exact q ((nI_eq (by omega) (by omega)).mp x.symm)
      exact ⟨a, (e d a).mpr ⟨b, dc⟩, by rw [e2 d dc]; exact x⟩
/-- open calls -/
def mOpen (m : Mu) : Nat := (List.range (mC m)).countP (fun c => decide (m.1 55 c = 119) || decide (m.1 55 c = 115))
theorem cnt_or {p q : Nat → Bool} (l : List Nat) (h : ∀ a ∈ l, ¬ (p a = true ∧ q a = true)) : l.countP p + l.countP q = l.countP (fun a => p a || q a) := by
  induction l with
  | nil => rfl
  | cons a l ih =>
    have ih := ih (fun b hb => h b (List.mem_cons_of_mem _ hb))
    have ha := h a List.mem_cons_self
    simp only [List.countP_cons]
    cases hp : p a <;> cases hq : q a <;> simp_all <;> omega
theorem open_eq : mMany m 119 + mMany m 115 = mOpen m := by
  unfold mMany mOpen
  refine cnt_or _ fun a _ ⟨h1, h2⟩ => ?_
  simp only [decide_eq_true_eq] at h1 h2
  rw [h1] at h2
  exact absurd h2 (by decide)
theorem open_le (hc : mC m' = mC m) (e : ∀ i, i < mC m → (m'.1 55 i = 119 ∨ m'.1 55 i = 115) → (m.1 55 i = 119 ∨ m.1 55 i = 115)) : mOpen m' ≤ mOpen m := by
  unfold mOpen
  rw [hc]
  refine List.countP_mono_left fun i hi => ?_
  simp only [Bool.or_eq_true, decide_eq_true_eq]
  exact e i (List.mem_range.mp hi)
theorem nodup_len {a b : List Nat} (ha : a.Nodup) (hb : b.Nodup) (h : ∀ x, x ∈ a ↔ x ∈ b) : a.length = b.length := ((List.perm_ext_iff_of_nodup ha hb).mpr h).length_eq
theorem ln_nodup (hL : relL m I R rc ln qu) : ln.Nodup := by
  have := hL.2.2.2.2.2.2.2.1
  exact this.imp fun {a b} h => by intro z; rw [z] at h; omega
theorem many_filter {st : Int32} : mMany m st = ((List.range (mC m)).filter (fun c => decide (m.1 55 c = st))).length := by
  unfold mMany; exact List.countP_eq_length_filter
theorem ln_len (hL : relL m I R rc ln qu) : ln.length = mMany m 119 := by
  rw [many_filter]
  refine nodup_len (ln_nodup hL) (List.nodup_range.filter _) fun x => ?_
  rw [hL.2.2.2.2.2.1 x, List.mem_filter, List.mem_range]
  rfl
theorem spk_lt (hc : ∃ c, c < mC m ∧ mSpk m c = true) (hk : mMany m 119 + mMany m 115 ≤ 24) (hL : relL m I R rc ln qu) : ln.length < 24 := by
  rw [ln_len hL]
  obtain ⟨c, h1, h2⟩ := hc
  have : 0 < mMany m 115 := List.countP_pos_iff.mpr ⟨c, List.mem_range.mpr h1, h2⟩
  omega
/-- busy channels -/
theorem busy_eq (hC : relC m I R LP rc) (hH : relH m I R rc) (hh : okH m) : busyF R = nI (mMany m 115) := by
  have e0 : R 14 0 0 = none ↔ mOn m 0 = none := by rw [hH.1 0 (by decide)]; simp
  have e1 : R 14 0 1 = none ↔ mOn m 1 = none := by rw [hH.1 1 (by decide)]; simp
  have e2 : R 14 0 2 = none ↔ mOn m 2 = none := by rw [hH.1 2 (by decide)]; simp
  have hl : ((mOn m 0).toList ++ ((mOn m 1).toList ++ (mOn m 2).toList)).length = mMany m 115 := by
    rw [many_filter]
    refine nodup_len ?_ (List.nodup_range.filter _) fun x => ?_
    · have i01 : ∀ c, mOn m 0 = some c → mOn m 1 = some c → False := fun c a b => absurd (mOn_inj a b (by decide) (by decide)) (by decide)
      have i02 : ∀ c, mOn m 0 = some c → mOn m 2 = some c → False := fun c a b => absurd (mOn_inj a b (by decide) (by decide)) (by decide)
      have i12 : ∀ c, mOn m 1 = some c → mOn m 2 = some c → False := fun c a b => absurd (mOn_inj a b (by decide) (by decide)) (by decide)
      cases a : mOn m 0 <;> cases b : mOn m 1 <;> cases c : mOn m 2 <;> simp_all <;> grind
    · simp only [List.mem_append, Option.mem_toList, List.mem_filter, List.mem_range]
      constructor
      · intro z
        have : ∃ h, mOn m h = some x := by
          rcases z with z | z | z
          · exact ⟨0, z⟩
          · exact ⟨1, z⟩
          · exact ⟨2, z⟩
        obtain ⟨h, z⟩ := this
        exact ⟨(mOn_some z).1, (mOn_some z).2.1⟩
      · intro ⟨z1, z2⟩
        obtain ⟨h, h3, -, z⟩ := mOn_spk hh z1 z2
        have : h = 0 ∨ h = 1 ∨ h = 2 := by omega
        rcases this with rfl | rfl | rfl
        · exact Or.inl z
        · exact Or.inr (Or.inl z)
        · exact Or.inr (Or.inr z)
  rw [← hl]
  unfold busyF
  simp only [e0, e1, e2]
  cases a : mOn m 0 <;> cases b : mOn m 1 <;> cases c : mOn m 2 <;> simp <;> rfl
end CH
