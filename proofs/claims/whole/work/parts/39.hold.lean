/-! to whom a station belongs; the weakest; the line's order -/
section HO
variable {m m' : Mu} {I : kI} {L : kL} {R : kRf} {LP : List Nat} {rc : Nat → Nat} {ln qu : List Nat} {lg B : Nat}
theorem mHold_iff (hh : okH m) {s c : Nat} (hs : s < 32) : mHold m (nI s) = some c ↔ c < mC m ∧ mSpk m c = true ∧ bt (m.1 57 c) s = true := by
  constructor
  · intro h
    have h1 := List.mem_range.mp (List.mem_of_find?_eq_some h)
    have h2 := List.find?_some h
    simp only [Bool.and_eq_true, decide_eq_true_eq] at h2
    exact ⟨h1, h2.1, (bit_shr hs).mp h2.2⟩
  · intro ⟨h1, h2, h3⟩
    cases hm : mHold m (nI s) with
    | none =>
      have := (List.find?_eq_none.mp hm) c (List.mem_range.mpr h1)
      have h4 := (bit_shr hs).mpr h3
      simp [h2, h4] at this
    | some d =>
      have h4 := List.mem_range.mp (List.mem_of_find?_eq_some hm)
      have h5 := List.find?_some hm
      simp only [Bool.and_eq_true, decide_eq_true_eq] at h5
      have h6 := (bit_shr hs).mp h5.2
      by_cases e : d = c
      · rw [e]
      · exfalso
        have h7 := hh.2.1 d c h4 h1 h5.1 h2 e
        have h8 : bt (m.1 57 d &&& m.1 57 c) s = true := by rw [b_and, h6, h3]; rfl
        rw [h7, b_0] at h8
        cases h8
theorem sh_bt {o s : Nat} (hs : s < 32) : mSh m ((1 : Int32) <<< (nI s &&& 31)) (some o) = bt (m.1 57 o) s := by
  unfold mSh
  rw [Bool.eq_iff_iff, decide_eq_true_eq]
  exact bit_and hs
theorem hold_eq (hC : relC m I R LP rc) (hH : relH m I R rc) (hh : okH m) {s : Nat} (hs : s < 32) : holdF I R ((1 : Int32) <<< (nI s &&& 31)) = (mHold m (nI s)).map rc := by
  unfold holdF
  rw [hH.1 0 (by decide), hH.1 1 (by decide), hH.1 2 (by decide), sh_eq hC, sh_eq hC, sh_eq hC]
  have key : ∀ h o, mOn m h = some o → mSh m ((1 : Int32) <<< (nI s &&& 31)) (some o) = true → mHold m (nI s) = some o := fun h o a b => (mHold_iff hh hs).mpr ⟨(mOn_some a).1, (mOn_some a).2.1, by rw [← sh_bt hs]; exact b⟩
  cases hm : mHold m (nI s) with
  | none =>
    have no : ∀ h, mSh m ((1 : Int32) <<< (nI s &&& 31)) (mOn m h) = false := by
      intro h
      cases a : mOn m h with
      | none => rfl
      | some o =>
        cases b : mSh m ((1 : Int32) <<< (nI s &&& 31)) (some o) with
        | false => rfl
        | true => exact absurd (key h o a b) (by rw [hm]; simp)
    simp [no]
  | some d =>
    obtain ⟨d1, d2, d3⟩ := (mHold_iff hh hs).mp hm
    obtain ⟨h, h3, -, ho⟩ := mOn_spk hh d1 d2
    have one : ∀ g o, mOn m g = some o → mSh m ((1 : Int32) <<< (nI s &&& 31)) (some o) = true → o = d := fun g o a b => Option.some.inj ((key g o a b).symm.trans hm)
    have yes : mSh m ((1 : Int32) <<< (nI s &&& 31)) (mOn m h) = true := by rw [ho, sh_bt hs]; exact d3
    have at' : ∀ g, mSh m ((1 : Int32) <<< (nI s &&& 31)) (mOn m g) = true → mOn m g = some d := by
      intro g z
      cases a : mOn m g with
      | none => rw [a] at z; cases z
      | some o => rw [a] at z; rw [one g o a z]
    have : h = 0 ∨ h = 1 ∨ h = 2 := by omega
    by_cases z0 : mSh m ((1 : Int32) <<< (nI s &&& 31)) (mOn m 0) = true
    · rw [if_pos z0, at' 0 z0]
    · rw [if_neg z0]
      by_cases z1 : mSh m ((1 : Int32) <<< (nI s &&& 31)) (mOn m 1) = true
      · rw [if_pos z1, at' 1 z1]
      · rw [if_neg z1]
        have h2 : h = 2 := by
          rcases this with q | q | q
          · rw [q] at yes; exact absurd yes z0
          · rw [q] at yes; exact absurd yes z1
          · exact q
        rw [h2] at yes
        rw [if_pos yes, at' 2 yes]
theorem wk_eq (hC : relC m I R LP rc) (hok : okN m B) (hh : okH m) (hB : B < 2 ^ 30) {a w h : Nat} (hw : w < mC m) (sw : mSpk m w = true) (ha : mayF I a (nI h) = true) : luF I a (nI h) (some (rc w)) ((mOn m h).map rc) = some (rc (mWk m w (mOn m h))) := by
  cases ho : mOn m h with
  | none => rfl
  | some o =>
    have h1 := mOn_some ho
    rw [Option.map_some, luF_s2, if_pos ha, eas_eq hC hok hh hB h1.1 hw h1.2.1 sw]
    unfold mWk
    by_cases q : mRank m o < mRank m w ∨ (mRank m o = mRank m w ∧ m.1 58 w < m.1 58 o)
    · simp [q]
    · simp [q]
theorem mWk_spk {w h : Nat} (hw : w < mC m) (sw : mSpk m w = true) : mWk m w (mOn m h) < mC m ∧ mSpk m (mWk m w (mOn m h)) = true := by
  cases ho : mOn m h with
  | none => exact ⟨hw, sw⟩
  | some o =>
    have h1 := mOn_some ho
    unfold mWk
    dsimp only
    split
    · exact ⟨h1.1, h1.2.1⟩
    · exact ⟨hw, sw⟩
theorem free3 {c : Nat} (h : mFree m c = 3) : (∃ b, mOn m 1 = some b) ∧ (∃ b, mOn m 2 = some b) ∧ (mFirst m c = 0 → ∃ a, mOn m 0 = some a) := by
  unfold mFree at h
  by_cases q : mFirst m c = 0 ∧ mOn m 0 = none
  · rw [if_pos q] at h; omega
  · rw [if_neg q] at h
    by_cases q1 : mOn m 1 = none
    · rw [if_pos q1] at h; omega
    · rw [if_neg q1] at h
      by_cases q2 : mOn m 2 = none
      · rw [if_pos q2] at h; omega
      · refine ⟨Option.ne_none_iff_exists'.mp q1, Option.ne_none_iff_exists'.mp q2, fun z => Option.ne_none_iff_exists'.mp fun y => q ⟨z, y⟩⟩
theorem mFirst_01 {c : Nat} : mFirst m c = 0 ∨ mFirst m c = 1 := by unfold mFirst; split; exact Or.inl rfl; exact Or.inr rfl
theorem may_12 {a h : Nat} (h1 : 1 ≤ h) (h3 : h < 3) : mayF I a (nI h) = true := by
  have : h = 1 ∨ h = 2 := by omega
  rcases this with rfl | rfl
  · exact may_1
  · exact may_2
theorem weak_eq (hC : relC m I R LP rc) (hH : relH m I R rc) (hok : okN m B) (hh : okH m) (hB : B < 2 ^ 30) {c : Nat} (hc : c < mC m) (h3 : mFree m c = 3) : leaF I R (rc c) = some (rc (mWeak m c)) ∧ mWeak m c < mC m ∧ mSpk m (mWeak m c) = true := by
  obtain ⟨⟨b, e1⟩, ⟨d, e2⟩, hf⟩ := free3 h3
  have m0 := may_eq hC hc
  have s1 := mOn_some e1
  have s2 := mOn_some e2
  have w2 : luF I (rc c) 2 = luF I (rc c) (nI 2) := rfl
  have w1 : luF I (rc c) 1 = luF I (rc c) (nI 1) := rfl
  unfold leaF mWeak
  rw [hH.1 0 (by decide), hH.1 1 (by decide), hH.1 2 (by decide)]
  rcases mFirst_01 (m := m) (c := c) with q | q
  · obtain ⟨a, e0⟩ := hf q
    have s0 := mOn_some e0
    have t := mWk_spk (h := 1) s0.1 s0.2.1
    have t2 := mWk_spk (h := 2) t.1 t.2
    rw [if_pos q, e0]
    rw [show luF I (rc c) 0 none (Option.map rc (some a)) = some (rc a) from by rw [Option.map_some, luF_s1, m0, q]; rfl]
    rw [w1, w2, wk_eq hC hok hh hB s0.1 s0.2.1 (may_12 (by decide) (by decide)), wk_eq hC hok hh hB t.1 t.2 (may_12 (by decide) (by decide))]
    exact ⟨rfl, t2⟩
  · have z : mFirst m c ≠ 0 := by omega
    rw [if_neg z]
    have t2 := mWk_spk (h := 2) s1.1 s1.2.1
    have l0 : luF I (rc c) 0 none (Option.map rc (mOn m 0)) = none := by
      cases e0 : mOn m 0 with
      | none => rfl
      | some a => rw [Option.map_some, luF_s1, m0]; simp [z]
    rw [l0, e1]
    rw [show luF I (rc c) 1 none (Option.map rc (some b)) = some (rc b) from by rw [Option.map_some, luF_s1, may_1]; rfl]
    rw [w2, wk_eq hC hok hh hB s1.1 s1.2.1 (may_12 (by decide) (by decide))]
    exact ⟨rfl, t2⟩
/-- the order of the line -/
theorem rank_in (hk : ∀ i, i < mC m → okC m i) {i : Nat} (hi : i < mC m) : mRank m i = 0 ∨ mRank m i = 1 ∨ mRank m i = 2 ∨ mRank m i = 3 := rank_val (hk i hi).2.1
theorem ahd_eq {J : kI} {i j x y : Nat} (hi : i < 150) (hj : j < 150) (n1 : J 20 x 0 = nI i) (n2 : J 20 y 0 = nI j) (r1 : J 20 x 5 = mRank m i) (r2 : J 20 y 5 = mRank m j) (k1 : mRank m i = 0 ∨ mRank m i = 1 ∨ mRank m i = 2 ∨ mRank m i = 3) (k2 : mRank m j = 0 ∨ mRank m j = 1 ∨ mRank m j = 2 ∨ mRank m j = 3) : ahdF J x y = decide (key m i < key m j) := by
  unfold ahdF key
  rw [n1, n2, r1, r2]
  have e : (nI i < nI j) ↔ i < j := nI_ltI (by omega) (by omega)
  rcases k1 with a | a | a | a <;> rcases k2 with b | b | b | b <;> rw [a, b] <;> simp [e] <;> first | omega | (constructor <;> intro z <;> omega) | (norm_cast) | skip
theorem ins_td {α : Type} {l : List α} {k : Nat} (a : α) (h : k ≤ l.length) : l.insertIdx k a = l.take k ++ a :: l.drop k := by
  induction l generalizing k with
  | nil =>
    have : k = 0 := Nat.le_zero.mp h
    subst this; rfl
  | cons b l ih =>
    cases k with
    | zero => rfl
    | succ k => rw [List.insertIdx_succ_cons, ih (Nat.le_of_succ_le_succ h)]; rfl
theorem ln_ins {f : Nat → Int} {l : List Nat} {k c : Nat} (hk : k ≤ l.length) (hp : l.Pairwise (fun a b => f a < f b)) (h1 : ∀ j b, k ≤ j → l[j]? = some b → f c < f b) (h2 : ∀ b, 1 ≤ k → l[k - 1]? = some b → f b < f c) : (l.insertIdx k c).Pairwise (fun a b => f a < f b) := by
  rw [ins_td c hk, List.pairwise_append]
  have hd : ∀ b ∈ l.drop k, f c < f b := by
    intro b hb
    obtain ⟨j, hj⟩ := List.mem_iff_getElem?.mp hb
    rw [List.getElem?_drop] at hj
    exact h1 (k + j) b (by omega) hj
  have hp0 : (l.take k ++ l.drop k).Pairwise (fun a b => f a < f b) := by rw [List.take_append_drop]; exact hp
  rw [List.pairwise_append] at hp0
  have ht : ∀ a ∈ l.take k, f a < f c := by
    intro a ha
    obtain ⟨j, hj⟩ := List.mem_iff_getElem?.mp ha
    rw [List.getElem?_take] at hj
    by_cases q : j < k
    · rw [if_pos q] at hj
      by_cases q2 : j = k - 1
      · exact h2 a (by omega) (by rw [← q2]; exact hj)
      · have hl : k - 1 < l.length := by omega
        have hjl : j < l.length := by omega
        have e1 := List.pairwise_iff_getElem.mp hp j (k - 1) hjl hl (by omega)
        rw [List.getElem?_eq_getElem hjl] at hj
        have e2 := h2 l[k - 1] (by omega) (List.getElem?_eq_getElem hl)
        rw [Option.some.inj hj] at e1
        omega
    · rw [if_neg q] at hj; cases hj
  refine ⟨hp0.1, List.pairwise_cons.mpr ⟨hd, hp0.2.1⟩, fun a ha b hb => ?_⟩
  rcases List.mem_cons.mp hb with q | q
  · rw [q]; exact ht a ha
  · exact hp0.2.2 a ha b q
theorem map_ins {l : List Nat} {k c : Nat} (f : Nat → Nat) (h : k ≤ l.length) : (l.map f).insertIdx k (f c) = (l.insertIdx k c).map f := by
  rw [ins_td _ (by rw [List.length_map]; exact h), ins_td c h, List.map_append, List.map_take, List.map_cons, List.map_drop]
theorem map_er {l : List Nat} {c : Nat} (f : Nat → Nat) (h : ∀ x ∈ l, f x = f c → x = c) : (l.map f).erase (f c) = (l.erase c).map f := by
  induction l with
  | nil => rfl
  | cons x l ih =>
    rw [List.map_cons]
    by_cases q : x = c
    · subst q; rw [List.erase_cons_head, List.erase_cons_head]
    · have q2 : f x ≠ f c := fun z => q (h x List.mem_cons_self z)
      rw [List.erase_cons_tail (by simpa using q2), List.erase_cons_tail (by simpa using q), List.map_cons, ih (fun y hy => h y (List.mem_cons_of_mem _ hy))]
end HO
