/-! the public calls that change: raise -/
section RA
variable {m : Mu} {I : kI} {L : kL} {R : kRf} {LP : List Nat} {rc : Nat → Nat} {ln qu : List Nat} {lg B : Nat}
def raM (m : Mu) (c : Nat) (u : Int32) : Mu := ms m 53 c u
def urI (I : kI) (a : Nat) (u : Int32) : kI := ku (ku I 20 a 4 u) 20 a 5 (wghtF u)
theorem ra_rank {c i : Nat} {u : Int32} : mRank (raM m c u) i = if i = c then wghtF u else mRank m i := by
  unfold mRank raM
  by_cases q : i = c
  · subst q; rw [ms_eq, if_pos rfl]
  · rw [ms_j _ _ _ q, if_neg q]
theorem ra_inv {c : Nat} {u : Int32} (hI : Inv m B) (hu : u = 100 ∨ u = 117 ∨ u = 115 ∨ u = 114) : Inv (raM m c u) B := by
  obtain ⟨a, b, z, d, e1, f, g, i, j⟩ := hI
  refine ⟨a, b, z, fun x hx => ?_, e1, f, g, i, j⟩
  obtain ⟨d1, d2, d3⟩ := d x hx
  refine ⟨d1, ?_, d3⟩
  by_cases q : x = c
  · subst q; unfold raM; rw [ms_eq]; exact hu
  · unfold raM; rw [ms_j _ _ _ q]; exact d2
theorem rel_ur {c : Nat} {u : Int32} (hR : Rel m I L R LP rc ln qu lg) (hc : c < mC m) (hw : mWait m c ≠ true) : Rel (raM m c u) (urI I (rc c) u) L R LP rc ln qu lg := by
  obtain ⟨hS, hC, hH, hL, hG, hT⟩ := hR
  refine ⟨hS, relC_c hC rfl (fun _ _ => rfl) rfl (fun i hi => ?_), hH, ?_, hG, hT⟩
  · have h := hC.2.2 i hi
    obtain ⟨a0, a1, a2, a3, a4, a5, a6, a7, a8, a9⟩ := h.1
    by_cases q : i = c
    · subst q
      refine ⟨⟨?_, ?_, ?_, ?_, ?_, ?_, ?_, ?_, ?_, ?_⟩, fun z => ?_⟩
      any_goals (simp [urI, raM, ku, ms, mRank, a0, a1, a2, a3, a4, a5, a6, a7, a8, a9]; done)
      obtain ⟨b0, b1, b2⟩ := h.2 z
      refine ⟨?_, ?_, ?_⟩ <;> simp [urI, raM, ku, ms, b0, b1, b2]
    · have hne := rc_ne hC hi hc q
      refine ⟨⟨?_, ?_, ?_, ?_, ?_, ?_, ?_, ?_, ?_, ?_⟩, fun z => ?_⟩
      any_goals (simp [urI, raM, ku, ms, mRank, q, hne, a0, a1, a2, a3, a4, a5, a6, a7, a8, a9]; done)
      obtain ⟨b0, b1, b2⟩ := h.2 z
      refine ⟨?_, ?_, ?_⟩ <;> simp [urI, raM, ku, ms, q, hne, b0, b1, b2]
  · obtain ⟨l1, l2, l3, l4, l5, l6, l7, l8, l9⟩ := hL
    refine ⟨l1, l2, l3, l4, l5, l6, l7, l8.imp_of_mem ?_, l9⟩
    intro a b ha hb hab
    have na : a ≠ c := fun z => hw (z ▸ ((l6 a).mp ha).2)
    have nb : b ≠ c := fun z => hw (z ▸ ((l6 b).mp hb).2)
    unfold key at hab ⊢
    rw [ra_rank, ra_rank, if_neg na, if_neg nb]; exact hab
theorem rel_raw {R1 R' : kRf} {c k : Nat} {u : Int32} (hR : Rel m I L R LP rc ln qu lg) (hI : Inv m B) (hc : c < mC m) (hw : m.1 55 c = 119) (hu : u = 100 ∨ u = 117 ∨ u = 115 ∨ u = 114)
    (e1 : arrL R1 12 24 ((ln.map rc).erase (rc c))) (e2 : arrL R1 13 24 ((qu.map rc).erase (rc c))) (e5 : ∀ k' i', (k', i') ≠ (12, 0) → (k', i') ≠ (13, 0) → R1 k' i' = R k' i')
    (hkl : k ≤ ((ln.erase c).map rc).length) (h1 : arrL R' 12 24 (((ln.erase c).map rc).insertIdx k (rc c))) (h2 : arrL R' 13 24 ((qu.erase c).map rc ++ [rc c])) (h3 : ∀ j b, k ≤ j → ((ln.erase c).map rc)[j]? = some b → ahdF (urI (ku I 2 0 2 (nI ((ln.map rc).length - 1))) (rc c) u) (rc c) b = true) (h4 : ∀ b, 1 ≤ k → ((ln.erase c).map rc)[k - 1]? = some b → ahdF (urI (ku I 2 0 2 (nI ((ln.map rc).length - 1))) (rc c) u) (rc c) b = false) (h5 : ∀ k' i', (k', i') ≠ (12, 0) → (k', i') ≠ (13, 0) → R' k' i' = R1 k' i') :
    Rel (raM m c u) (ku (urI (ku I 2 0 2 (nI ((ln.map rc).length - 1))) (rc c) u) 2 0 2 (nI (((ln.erase c).map rc).length + 1))) L R' LP rc ((ln.erase c).insertIdx k c) (qu.erase c ++ [c]) lg := by
  have hph := rel_cw hR hc hw e1 e2 e5
  have hnw : mWait (ms m 55 c 99) c ≠ true := by unfold mWait; rw [ms_eq]; decide
  have hp2 := rel_ur (u := u) hph hc hnw
  have hIp : Inv (ms m 55 c 99) B := inv_over hI hc (Or.inr hw) (Or.inr rfl)
  have hIp2 := ra_inv (c := c) hIp hu
  obtain ⟨hS, hC, hH, hL, hG, hT⟩ := hp2
  obtain ⟨-, hC0, -, hL0, -, -⟩ := hR
  have hcin : c ∈ ln := (hL0.2.2.2.2.2.1 c).mpr ⟨hc, by unfold mWait; exact decide_eq_true hw⟩
  have hlen : (ln.erase c).length = ln.length - 1 := List.length_erase_of_mem hcin
  have hpos : 0 < ln.length := List.length_pos_of_mem hcin
  have hs : ∀ i, mSpk (raM m c u) i = mSpk (raM (ms m 55 c 99) c u) i := by
    intro i
    show mSpk m i = mSpk (ms m 55 c 99) i
    unfold mSpk
    by_cases q : i = c
    · subst q; rw [ms_eq, hw]; decide
    · rw [ms_j _ _ _ q]
  have ho : ∀ h, mOn (raM m c u) h = mOn (raM (ms m 55 c 99) c u) h := fun h => find_congr fun i _ => by rw [hs]; rfl
  refine ⟨hS, relC_c hC rfl (fun i _ => by rw [h5 5 0 (pair_ne (by decide)) (pair_ne (by decide))]) rfl (fun i hi => ?_), ⟨fun h hh3 => by rw [h5 14 0 (pair_ne (by decide)) (pair_ne (by decide)), ho]; exact hH.1 h hh3, hH.2⟩, ?_, hG, hT⟩
  · have hi : i < mC m := hi
    have h := hC0.2.2 i hi
    obtain ⟨a0, a1, a2, a3, a4, a5, a6, a7, a8, a9⟩ := h.1
    by_cases q : i = c
    · subst q
      refine ⟨⟨?_, ?_, ?_, ?_, ?_, ?_, ?_, ?_, ?_, ?_⟩, fun z => ?_⟩
      any_goals (simp [urI, raM, ku, ms, mRank, a0, a1, a2, a3, a4, a5, a6, a7, a8, a9]; done)
      obtain ⟨b0, b1, b2⟩ := h.2 z
      refine ⟨?_, ?_, ?_⟩ <;> simp [urI, raM, ku, ms, b0, b1, b2]
    · have hne := rc_ne hC0 hi hc q
      refine ⟨⟨?_, ?_, ?_, ?_, ?_, ?_, ?_, ?_, ?_, ?_⟩, fun z => ?_⟩
      any_goals (simp [urI, raM, ku, ms, mRank, q, hne, a0, a1, a2, a3, a4, a5, a6, a7, a8, a9]; done)
      obtain ⟨b0, b1, b2⟩ := h.2 z
      refine ⟨?_, ?_, ?_⟩ <;> simp [urI, raM, ku, ms, q, hne, b0, b1, b2]
  · refine relL_join (m := raM (ms m 55 c 99) c u) (J := urI (ku I 2 0 2 (nI ((ln.map rc).length - 1))) (rc c) u) hC hIp2.2.2.2.1 hL (by have := hL0.2.1; omega) hc (fun z => absurd ((hL.2.2.2.2.2.1 c).mp z).2 hnw) rfl (fun i _ => ?_) (fun i => rfl) ?_ (fun x => ?_) (fun x => ?_) hkl h1 h2 h3 h4
    · show mWait m i = true ↔ mWait (ms m 55 c 99) i = true ∨ i = c
      unfold mWait
      by_cases q : i = c
      · subst q; rw [hw]; simp
      · rw [ms_j _ _ _ q]; simp [q]
    · rw [ku_eq, List.length_map]
    · simp [urI, ku]
    · simp [urI, ku]
end RA

