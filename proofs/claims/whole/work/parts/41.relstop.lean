/-! a call stops speaking: it waits again, or it is over -/
section RS
variable {m m' : Mu} {I : kI} {L : kL} {R : kRf} {LP : List Nat} {rc : Nat → Nat} {ln qu : List Nat} {lg B : Nat}
theorem relC_c {I' : kI} {R' : kRf} (h : relC m I R LP rc) (e1 : I' 0 0 5 = I 0 0 5) (e2 : ∀ i, i < 150 → R' 5 0 i = R 5 0 i) (e3 : m'.1 30 10 = m.1 30 10) (e4 : ∀ i, i < mC m → cR m' I' (rc i) i ∧ (mSpk m' i = true → sR m' I' (rc i) i)) : relC m' I' R' LP rc := by
  have em : mC m' = mC m := by unfold mC; rw [e3]
  obtain ⟨a, ⟨b1, b2, b3⟩, -⟩ := h
  refine ⟨by rw [e3, em]; exact a, ⟨by rw [e1, em]; exact b1, by rw [em]; exact b2, fun i hi => ?_⟩, fun i hi => ?_⟩
  · rw [em] at hi
    rw [e2 i (by omega)]; exact b3 i hi
  · rw [em] at hi
    exact e4 i hi
/-- the memory when the call's fields are reset and it waits again -/
def stI (I : kI) (a : Nat) : kI := ku (ku (ku (ku I 20 a 8 (-1)) 20 a 9 0) 20 a 7 119) 20 a 10 (I 20 a 10 + 1)
def stM (m : Mu) (c : Nat) : Mu := ms (ms m 55 c 119) 59 c (m.1 59 c + 1)
theorem stM_spk {c i : Nat} : mSpk (stM m c) i = true ↔ mSpk m i = true ∧ i ≠ c := by
  unfold mSpk stM
  by_cases q : i = c
  · subst q; simp [ms]
  · simp [ms, q]
theorem stM_okH (hh : okH m) {c : Nat} : okH (stM m c) := okH_sub hh rfl fun i _ hs => ⟨(stM_spk.mp hs).1, rfl, rfl, rfl⟩
theorem mOn_lt {h c : Nat} (hm : mOn m h = some c) : c < mC m := (mOn_some hm).1
theorem rc_ne (hC : relC m I R LP rc) {i j : Nat} (hi : i < mC m) (hj : j < mC m) (h : i ≠ j) : rc i ≠ rc j := fun z => h (rc_inj hC hi hj z)
theorem relH_stop {R' : kRf} {I' : kI} (hH : relH m I R rc) (hh : okH m) (hh' : okH m') {c h0 : Nat} (hc : mC m' = mC m) (hm : mOn m h0 = some c) (h03 : h0 < 3) (e : ∀ i, i < mC m → (mSpk m' i = true ↔ mSpk m i = true ∧ i ≠ c)) (e2 : ∀ i, i ≠ c → m'.1 56 i = m.1 56 i) (eR : ∀ h, h < 3 → R' 14 0 h = if h = h0 then none else R 14 0 h) (eI : ∀ h, h < 3 → I' 15 0 h = I 15 0 h) (e64 : ∀ h, m'.1 64 h = m.1 64 h) : relH m' I' R' rc := by
  refine ⟨fun h h3 => ?_, fun h h3 => by rw [eI h h3, e64]; exact hH.2 h h3⟩
  rw [eR h h3, mOn_stop hh hh' hc hm h03 e e2 h3]
  by_cases q : h = h0
  · rw [if_pos q, if_pos q]; rfl
  · rw [if_neg q, if_neg q]; exact hH.1 h h3
/-- what the line's join leaves -/
def joinR (R R' : kRf) (k : Nat) (lo lq : List Nat) (a : Nat) : Prop := arrL R' 12 24 (lo.insertIdx k a) ∧ arrL R' 13 24 (lq ++ [a]) ∧ ∀ k' i', (k', i') ≠ (12, 0) → (k', i') ≠ (13, 0) → R' k' i' = R k' i'
theorem pair_ne {a b c d : Nat} (h : a ≠ c) : (a, b) ≠ (c, d) := fun z => h (congrArg Prod.fst z)
theorem relL_join {J I' : kI} {R0 R' : kRf} {c k : Nat} (hC : relC m I R0 LP rc) (hk : ∀ i, i < mC m → okC m i) (hL : relL m I R rc ln qu) (hl : ln.length < 24) (hc : c < mC m) (hcl : c ∉ ln) (hC' : mC m' = mC m) (hw : ∀ i, i < mC m → (mWait m' i = true ↔ mWait m i = true ∨ i = c)) (hr : ∀ i, mRank m' i = mRank m i) (hI : I' 2 0 2 = nI (ln.length + 1)) (hJ0 : ∀ x, J 20 x 0 = I 20 x 0) (hJ5 : ∀ x, J 20 x 5 = I 20 x 5)
    (hkl : k ≤ (ln.map rc).length) (h1 : arrL R' 12 24 ((ln.map rc).insertIdx k (rc c))) (h2 : arrL R' 13 24 (qu.map rc ++ [rc c])) (h3 : ∀ j b, k ≤ j → (ln.map rc)[j]? = some b → ahdF J (rc c) b = true) (h4 : ∀ b, 1 ≤ k → (ln.map rc)[k - 1]? = some b → ahdF J (rc c) b = false) : relL m' I' R' rc (ln.insertIdx k c) (qu ++ [c]) := by
  obtain ⟨l1, l2, l3, l4, l5, l6, l7, l8, l9⟩ := hL
  rw [List.length_map] at hkl
  have h150 := hC.2.1.2.1
  have ek : ∀ i, key m' i = key m i := fun i => by unfold key; rw [hr]
  have ahd : ∀ j, j < mC m → ahdF J (rc c) (rc j) = decide (key m c < key m j) := fun j hj => ahd_eq (by omega) (by omega) (by rw [hJ0]; exact (hC.2.2 c hc).1.1) (by rw [hJ0]; exact (hC.2.2 j hj).1.1) (by rw [hJ5]; exact (hC.2.2 c hc).1.2.2.2.2.2.1) (by rw [hJ5]; exact (hC.2.2 j hj).1.2.2.2.2.2.1) (rank_in hk hc) (rank_in hk hj)
  have hmem : ∀ j b, ln[j]? = some b → b < mC m := fun j b hb => ((l6 b).mp (List.mem_of_getElem? hb)).1
  have hrk : ∀ b, b < mC m → b ≠ c → key m b ≠ key m c := by
    intro b hb hbc z
    unfold key at z
    rcases rank_in hk hb with q | q | q | q <;> rcases rank_in hk hc with p | p | p | p <;> rw [q, p] at z <;> simp at z <;> omega
  have hlen : (ln.insertIdx k c).length = ln.length + 1 := by rw [List.length_insertIdx, if_pos hkl]
  refine ⟨by rw [hI, hlen], by omega, by rw [List.length_append, hlen, l3]; rfl, ?_, ?_, fun x => ?_, fun x => ?_, ?_, ?_⟩
  · rw [← map_ins rc hkl]; exact h1
  · rw [List.map_append]; exact h2
  · rw [List.mem_insertIdx hkl, hC']
    constructor
    · intro z
      rcases z with z | z
      · rw [z]; exact ⟨hc, (hw c hc).mpr (Or.inr rfl)⟩
      · have := (l6 x).mp z
        exact ⟨this.1, (hw x this.1).mpr (Or.inl this.2)⟩
    · intro ⟨z1, z2⟩
      rcases (hw x z1).mp z2 with q | q
      · exact Or.inr ((l6 x).mpr ⟨z1, q⟩)
      · exact Or.inl q
  · rw [List.mem_insertIdx hkl, List.mem_append, List.mem_singleton, l7 x]
    exact Or.comm
  · have e : (fun a b => key m' a < key m' b) = fun a b => key m a < key m b := by funext a b; rw [ek, ek]
    rw [e]
    refine ln_ins hkl l8 (fun j b hj hb => ?_) (fun b hk1 hb => ?_)
    · have := h3 j (rc b) hj (by rw [List.getElem?_map, hb]; rfl)
      rw [ahd b (hmem j b hb), decide_eq_true_eq] at this
      exact this
    · have := h4 (rc b) hk1 (by rw [List.getElem?_map, hb]; rfl)
      rw [ahd b (hmem _ b hb), decide_eq_false_iff_not] at this
      have hb2 := hrk b (hmem _ b hb) (fun z => hcl (by rw [← z]; exact List.mem_of_getElem? hb))
      omega
  · rw [List.nodup_append]
    refine ⟨l9, List.nodup_cons.mpr ⟨List.not_mem_nil, List.nodup_nil⟩, fun a ha b hb => ?_⟩
    rw [List.mem_singleton] at hb
    rw [hb]
    intro z
    exact hcl (by rw [← z]; exact (l7 a).mp ha)
theorem rel_wait {R' : kRf} {k c h0 : Nat} (hR : Rel m I L R LP rc ln qu lg) (hk : ∀ i, i < mC m → okC m i) (hh : okH m) (hl : ln.length < 24) (hm : mOn m h0 = some c) (h03 : h0 < 3)
    (hkl : k ≤ (ln.map rc).length) (h1 : arrL R' 12 24 ((ln.map rc).insertIdx k (rc c))) (h2 : arrL R' 13 24 (qu.map rc ++ [rc c])) (h3 : ∀ j b, k ≤ j → (ln.map rc)[j]? = some b → ahdF (stI I (rc c)) (rc c) b = true) (h4 : ∀ b, 1 ≤ k → (ln.map rc)[k - 1]? = some b → ahdF (stI I (rc c)) (rc c) b = false) (h5 : ∀ k' i', (k', i') ≠ (12, 0) → (k', i') ≠ (13, 0) → R' k' i' = (ku R 14 0 h0 none) k' i') :
    Rel (stM m c) (ku (stI I (rc c)) 2 0 2 (nI ((ln.map rc).length + 1))) L R' LP rc (ln.insertIdx k c) (qu ++ [c]) lg := by
  obtain ⟨hS, hC, hH, hL, hG, hT⟩ := hR
  have hms := mOn_some hm
  have hspk : m.1 55 c = 115 := by have := hms.2.1; unfold mSpk at this; exact of_decide_eq_true this
  have hcl : c ∉ ln := by
    intro z
    have := ((hL.2.2.2.2.2.1 c).mp z).2
    unfold mWait at this
    rw [hspk] at this
    exact absurd this (by decide)
  refine ⟨hS, relC_c hC rfl (fun i _ => ?_) rfl (fun i hi => ?_), relH_stop hH hh (stM_okH hh) rfl hm h03 (fun i _ => stM_spk) (fun i _ => rfl) (fun h h3 => ?_) (fun h _ => rfl) (fun h => rfl), ?_, hG, hT⟩
  · rw [h5 5 0 (pair_ne (by decide)) (pair_ne (by decide))]; rfl
  · have h := hC.2.2 i hi
    by_cases q : i = c
    · subst q
      refine ⟨?_, fun z => absurd rfl (stM_spk.mp z).2⟩
      obtain ⟨a0, a1, a2, a3, a4, a5, a6, a7, a8, a9⟩ := h.1
      refine ⟨?_, ?_, ?_, ?_, ?_, ?_, ?_, ?_, ?_, ?_⟩ <;> simp [stI, stM, ku, ms, mRank, a0, a1, a2, a3, a4, a5, a6, a8, a9]
    · have hne := rc_ne hC hi hms.1 q
      obtain ⟨a0, a1, a2, a3, a4, a5, a6, a7, a8, a9⟩ := h.1
      refine ⟨?_, fun z => ?_⟩
      · refine ⟨?_, ?_, ?_, ?_, ?_, ?_, ?_, ?_, ?_, ?_⟩ <;> simp [stI, stM, ku, ms, mRank, q, hne, a0, a1, a2, a3, a4, a5, a6, a7, a8, a9]
      · obtain ⟨b0, b1, b2⟩ := h.2 (stM_spk.mp z).1
        refine ⟨?_, ?_, ?_⟩ <;> simp [stI, stM, ku, ms, mRank, q, hne, b0, b1, b2]
  · rw [h5 14 0 (pair_ne (by decide)) (pair_ne (by decide)), ku_own]
  · refine relL_join (J := stI I (rc c)) hC hk hL hl hms.1 hcl rfl (fun i hi => ?_) (fun i => rfl) ?_ (fun x => ?_) (fun x => ?_) hkl h1 h2 h3 h4
    · unfold mWait stM
      by_cases q : i = c
      · subst q; simp [ms]
      · simp [ms, q]
    · rw [ku_eq, List.length_map]
    · simp [stI, ku]
    · simp [stI, ku]
/-- .. or it is over, with the state v -/
theorem rel_over {v : Int32} {c h0 : Nat} (hR : Rel m I L R LP rc ln qu lg) (hh : okH m) (hm : mOn m h0 = some c) (h03 : h0 < 3) (hv : v ≠ 119) (hv2 : v ≠ 115) :
    Rel (ms m 55 c v) (ku (ku (ku I 20 (rc c) 8 (-1)) 20 (rc c) 9 0) 20 (rc c) 7 v) L (ku R 14 0 h0 none) LP rc ln qu lg := by
  obtain ⟨hS, hC, hH, hL, hG, hT⟩ := hR
  have hms := mOn_some hm
  have hspk : m.1 55 c = 115 := by have := hms.2.1; unfold mSpk at this; exact of_decide_eq_true this
  have hs : ∀ i, mSpk (ms m 55 c v) i = true ↔ mSpk m i = true ∧ i ≠ c := by
    intro i
    unfold mSpk
    by_cases q : i = c
    · subst q; simp [ms, hv2]
    · simp [ms, q]
  have hw : ∀ i, mWait (ms m 55 c v) i = mWait m i := by
    intro i
    unfold mWait
    by_cases q : i = c
    · subst q; rw [ms_eq, hspk]; simp [hv]
    · rw [ms_j _ _ _ q]
  have hh' : okH (ms m 55 c v) := okH_sub hh rfl fun i _ z => ⟨((hs i).mp z).1, rfl, rfl, rfl⟩
  refine ⟨hS, relC_c hC rfl (fun i _ => rfl) rfl (fun i hi => ?_), relH_stop hH hh hh' rfl hm h03 (fun i _ => hs i) (fun i _ => rfl) (fun h _ => by rw [ku_own]) (fun h _ => rfl) (fun h => rfl), ?_, hG, hT⟩
  · have h := hC.2.2 i hi
    obtain ⟨a0, a1, a2, a3, a4, a5, a6, a7, a8, a9⟩ := h.1
    by_cases q : i = c
    · subst q
      refine ⟨?_, fun z => absurd rfl ((hs i).mp z).2⟩
      refine ⟨?_, ?_, ?_, ?_, ?_, ?_, ?_, ?_, ?_, ?_⟩ <;> simp [ku, ms, mRank, a0, a1, a2, a3, a4, a5, a6, a8, a9]
    · have hne := rc_ne hC hi hms.1 q
      refine ⟨?_, fun z => ?_⟩
      · refine ⟨?_, ?_, ?_, ?_, ?_, ?_, ?_, ?_, ?_, ?_⟩ <;> simp [ku, ms, mRank, q, hne, a0, a1, a2, a3, a4, a5, a6, a7, a8, a9]
      · obtain ⟨b0, b1, b2⟩ := h.2 ((hs i).mp z).1
        refine ⟨?_, ?_, ?_⟩ <;> simp [ku, ms, mRank, q, hne, b0, b1, b2]
  · obtain ⟨l1, l2, l3, l4, l5, l6, l7, l8, l9⟩ := hL
    exact ⟨l1, l2, l3, l4, l5, fun x => by rw [l6 x, hw]; rfl, l7, l8, l9⟩
/-- what is over leaves the line -/
theorem relL_leave {I' : kI} {R' : kRf} {c : Nat} (hC : relC m I R LP rc) (hL : relL m I R rc ln qu) (hc : c ∈ ln) (hC' : mC m' = mC m) (hw : ∀ i, i < mC m → (mWait m' i = true ↔ mWait m i = true ∧ i ≠ c)) (hr : ∀ i, i ≠ c → mRank m' i = mRank m i) (hI : I' 2 0 2 = nI ((ln.map rc).length - 1)) (h1 : arrL R' 12 24 ((ln.map rc).erase (rc c))) (h2 : arrL R' 13 24 ((qu.map rc).erase (rc c))) : relL m' I' R' rc (ln.erase c) (qu.erase c) := by
  have hnd := ln_nodup hL
  obtain ⟨l1, l2, l3, l4, l5, l6, l7, l8, l9⟩ := hL
  have hin : ∀ x ∈ ln, rc x = rc c → x = c := fun x hx z => rc_inj hC ((l6 x).mp hx).1 ((l6 c).mp hc).1 z
  have hqc : c ∈ qu := (l7 c).mpr hc
  have hpos : 0 < ln.length := List.length_pos_of_mem hc
  have e1 : (ln.erase c).length = ln.length - 1 := List.length_erase_of_mem hc
  have e2 : (qu.erase c).length = qu.length - 1 := List.length_erase_of_mem hqc
  refine ⟨by rw [hI, e1, List.length_map], by omega, by omega, ?_, ?_, fun x => ?_, fun x => ?_, ?_, l9.erase c⟩
  · rw [← map_er rc hin]; exact h1
  · rw [← map_er rc (fun x hx => hin x ((l7 x).mp hx))]; exact h2
  · rw [hnd.mem_erase_iff, l6 x, hC']
    constructor
    · intro ⟨a, b, d⟩; exact ⟨b, (hw x b).mpr ⟨d, a⟩⟩
    · intro ⟨a, b⟩; have := (hw x a).mp b; exact ⟨this.2, a, this.1⟩
  · rw [hnd.mem_erase_iff, l9.mem_erase_iff, l7 x]
  · refine (l8.sublist List.erase_sublist).imp_of_mem ?_
    intro a b ha hb hab
    have ha' := ((hnd.mem_erase_iff).mp ha).1
    have hb' := ((hnd.mem_erase_iff).mp hb).1
    unfold key at hab ⊢
    rw [hr a ha', hr b hb']; exact hab
end RS
