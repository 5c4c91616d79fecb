/-! the class's memory after a beginning -/
section RT
variable {m m' : Mu} {I : kI} {L : kL} {R : kRf} {LP : List Nat} {rc : Nat → Nat} {ln qu : List Nat} {lg B : Nat}
/-- what countFirstBeginning makes of the memory -/
def cfI (J : kI) (a : Nat) : kI := if J 20 a 12 = 0 then ku (ku J 20 a 12 1) 0 0 10 (J 0 0 10 + 1) else J
def cfL (J : kI) (L : kL) (a : Nat) : kL := if J 20 a 12 = 0 then ku L 0 0 9 (L 0 0 9 + (J 0 0 6 - J 20 a 3).toInt64) else L
def tkI0 (I : kI) (a z : Nat) (f v : Int32) : kI := ku (ku (ku (ku (ku (ku I 2 0 2 (nI z)) 20 a 8 f) 20 a 7 115) 20 a 9 v) 20 a 11 (I 0 0 7)) 0 0 7 (I 0 0 7 + 1)
def tkI (I : kI) (a z s : Nat) (f v : Int32) : kI := ku (cfI (tkI0 I a z f v) a) 17 s 4 (I 0 0 6)
theorem nI_long {a b : Nat} (h : a + b < 2 ^ 31) : (nI (a + b)).toInt64 = (nI a).toInt64 + (nI b).toInt64 := by
  apply Int64.toInt_inj.mp
  rw [Int64.toInt_add, Int32.toInt_toInt64, Int32.toInt_toInt64, Int32.toInt_toInt64, nI_toInt h, nI_toInt (by omega), nI_toInt (by omega)]
  rw [Int.bmod_eq_of_le (by omega) (by omega)]
  omega
theorem rel_take {R' : kRf} {c s : Nat} {v : Int32} (hR : Rel m I L R LP rc ln qu lg) (hI : Inv m B) (hB : B < 2 ^ 30) (hc : c < mC m) (hw : mWait m c = true) (hf : mFree m c ≠ 3) (hd : ∀ i, i < mC m → mSpk m i = true → m.1 57 i &&& v = 0) (hs : m.1 51 c = nI s) (hs2 : s < mS m)
    (h1 : arrL R' 12 24 ((ln.map rc).erase (rc c))) (h2 : arrL R' 13 24 ((qu.map rc).erase (rc c))) (h5 : ∀ k' i', (k', i') ≠ (12, 0) → (k', i') ≠ (13, 0) → R' k' i' = R k' i') :
    Rel (tkM m c v) (tkI I (rc c) ((ln.map rc).length - 1) s (nI (mFree m c)) v) (cfL (tkI0 I (rc c) ((ln.map rc).length - 1) (nI (mFree m c)) v) L (rc c)) (ku R' 14 0 (mFree m c) (some (rc c))) LP rc (ln.erase c) (qu.erase c) lg := by
  obtain ⟨hS, hC, hH, hL, hG, hT⟩ := hR
  have hI' := tk_inv hI hB hc hw hf hd
  have hh := hI.2.2.2.2.1
  have hh' := hI'.2.2.2.2.1
  have hS10 := hI.1
  obtain ⟨hf3, hfn⟩ := free_none hf
  obtain ⟨c0, c1, c2, c3, c4, c5, c6, c7, c8, c9⟩ := (hC.2.2 c hc).1
  have h58 : m.1 30 21 + 1 ≠ 0 := by
    obtain ⟨t, bg, lg, g1, g2, g3, g4, g5, g6, g7, g8⟩ := hI.2.2.2.2.2.2.1
    rw [g3]; exact nI_sne0 (by omega)
  have fs : (m.1 51 c).toNatClampNeg = s := by rw [hs]; exact nI_toNat (by omega)
  have z12 : tkI0 I (rc c) ((ln.map rc).length - 1) (nI (mFree m c)) v 20 (rc c) 12 = (if m.1 58 c = 0 then 0 else 1) := by simp [tkI0, ku]; exact c9
  have z0 : (tkI0 I (rc c) ((ln.map rc).length - 1) (nI (mFree m c)) v 20 (rc c) 12 = 0) ↔ m.1 58 c = 0 := by
    rw [z12]; split <;> simp [*]
  have cf20 : ∀ a f, ¬ (a = rc c ∧ f = 12) → tkI I (rc c) ((ln.map rc).length - 1) s (nI (mFree m c)) v 20 a f = tkI0 I (rc c) ((ln.map rc).length - 1) (nI (mFree m c)) v 20 a f := by
    intro a f h
    unfold tkI cfI
    split
    · simp [ku]; intro x y; exact absurd ⟨x, y⟩ h
    · simp [ku]
  have c12 : tkI I (rc c) ((ln.map rc).length - 1) s (nI (mFree m c)) v 20 (rc c) 12 = 1 := by
    unfold tkI cfI
    by_cases q : m.1 58 c = 0
    · rw [if_pos (z0.mpr q)]; simp [ku]
    · rw [if_neg (fun z => q (z0.mp z))]
      show tkI0 I (rc c) ((ln.map rc).length - 1) (nI (mFree m c)) v 20 (rc c) 12 = 1
      rw [z12, if_neg q]
  have oth : ∀ k i f, k ≠ 20 → k ≠ 17 → (k = 0 → f ≠ 7 ∧ f ≠ 10) → k ≠ 2 → tkI I (rc c) ((ln.map rc).length - 1) s (nI (mFree m c)) v k i f = I k i f := by
    intro k i f a b d e
    unfold tkI cfI tkI0
    by_cases q : k = 0
    · have := d q
      split <;> simp [ku, q, this]
    · split <;> simp [ku, q, a, b, e]
  refine ⟨?_, ?_, ?_, ?_, ?_, ?_⟩
  · obtain ⟨s1, s2, s3, s4⟩ := hS
    have i17 : ∀ x f, tkI I (rc c) ((ln.map rc).length - 1) s (nI (mFree m c)) v 17 x f = if x = s ∧ f = 4 then I 0 0 6 else I 17 x f := by
      intro x f
      unfold tkI cfI tkI0
      split <;> by_cases q : x = s <;> by_cases q2 : f = 4 <;> simp [ku, q, q2]
    refine ⟨by rw [tk_30 (by decide), tk_S]; exact s1, ⟨by rw [oth 1 0 5 (by decide) (by decide) (by decide) (by decide), tk_S]; exact s2.1, by rw [tk_S]; exact s2.2⟩, fun x hx => ?_, fun x hx => ?_⟩
    · obtain ⟨p, q, r⟩ := s3 x hx
      rw [i17, i17, i17, tk_o (k := 44) x (by decide), tk_o (k := 46) x (by decide), tk_rd, fs]
      by_cases e : x = s
      · simp [e]; exact ⟨by rw [← e]; exact p, hT.1, by rw [← e]; exact r⟩
      · simp [e]; exact ⟨p, q, r⟩
    · rw [tk_S] at hx
      obtain ⟨p, q, r⟩ := s4 x hx
      rw [i17, i17, i17, tk_o x (by decide), tk_o x (by decide), tk_o x (by decide)]
      simp
      exact ⟨p, q, r⟩
  · refine relC_c hC (oth 0 0 5 (by decide) (by decide) (by decide) (by decide)) (fun i _ => ?_) (tk_30 (by decide)) (fun i hi => ?_)
    · rw [ku_k (k := 14) (k' := 5) _ _ _ _ (by decide), h5 5 0 (pair_ne (by decide)) (pair_ne (by decide))]
    · have h := hC.2.2 i hi
      by_cases q : i = c
      · subst q
        refine ⟨⟨?_, ?_, ?_, ?_, ?_, ?_, ?_, ?_, ?_, ?_⟩, fun _ => ⟨?_, ?_, ?_⟩⟩
        · rw [cf20 _ _ (by simp)]; simp [tkI0, ku]; exact c0
        · rw [cf20 _ _ (by simp), tk_o i (by decide)]; simp [tkI0, ku]; exact c1
        · rw [cf20 _ _ (by simp), tk_o i (by decide)]; simp [tkI0, ku]; exact c2
        · rw [cf20 _ _ (by simp), tk_o i (by decide)]; simp [tkI0, ku]; exact c3
        · rw [cf20 _ _ (by simp), tk_o i (by decide)]; simp [tkI0, ku]; exact c4
        · rw [cf20 _ _ (by simp), tk_rank]; simp [tkI0, ku]; exact c5
        · rw [cf20 _ _ (by simp), tk_o i (by decide)]; simp [tkI0, ku]; exact c6
        · rw [cf20 _ _ (by simp), tk_rd]; simp [tkI0, ku]
        · rw [cf20 _ _ (by simp), tk_o i (by decide)]; simp [tkI0, ku]; exact c8
        · rw [c12, tk_rd]; simp [h58]
        · rw [cf20 _ _ (by simp), tk_rd]; simp [tkI0, ku]
        · rw [cf20 _ _ (by simp), tk_rd]; simp [tkI0, ku]
        · rw [cf20 _ _ (by simp), tk_rd]; simp [tkI0, ku]; exact hT.2.1
      · have hne := rc_ne hC hi hc q
        have hx : ∀ f, tkI I (rc c) ((ln.map rc).length - 1) s (nI (mFree m c)) v 20 (rc i) f = I 20 (rc i) f := fun f => by rw [cf20 _ _ (by simp [hne])]; simp [tkI0, ku, hne]
        obtain ⟨a0, a1, a2, a3, a4, a5, a6, a7, a8, a9⟩ := h.1
        refine ⟨?_, fun z => ?_⟩
        · unfold cR
          rw [hx, hx, hx, hx, hx, hx, hx, hx, hx, hx, tk_o (k := 51) i (by decide), tk_o (k := 52) i (by decide), tk_o (k := 60) i (by decide), tk_o (k := 53) i (by decide), tk_o (k := 54) i (by decide), tk_o (k := 59) i (by decide), tk_rank, tk_rd _ _ 55, tk_rd _ _ 58]
          simp [q]
          exact h.1
        · have := h.2 ((tk_spk.mp z).resolve_right q)
          unfold sR
          rw [hx, hx, hx, tk_rd, tk_rd, tk_rd]
          simp [q]
          exact this
  · refine ⟨fun h h3 => ?_, fun h h3 => ?_⟩
    · rw [tk_on hh hh' hc hw hf h3, ku_own, h5 14 0 (pair_ne (by decide)) (pair_ne (by decide))]
      show (if h = mFree m c then some (rc c) else R 14 0 h) = _
      by_cases q : h = mFree m c
      · rw [if_pos q, if_pos q]; rfl
      · rw [if_neg q, if_neg q]; exact hH.1 h h3
    · rw [oth 15 0 h (by decide) (by decide) (fun q => absurd q (by decide)) (by decide), tk_o h (by decide)]; exact hH.2 h h3
  · refine relL_leave (I' := tkI I (rc c) ((ln.map rc).length - 1) s (nI (mFree m c)) v) hC hL ((hL.2.2.2.2.2.1 c).mpr ⟨hc, hw⟩) (tk_C c v) (fun i _ => tk_wait) (fun i _ => tk_rank c v i) ?_ (fun j hj => ?_) (fun j hj => ?_)
    · unfold tkI cfI tkI0
      split <;> simp [ku]
    · rw [ku_k (k := 14) (k' := 12) _ _ _ _ (by decide)]; exact h1 j hj
    · rw [ku_k (k := 14) (k' := 13) _ _ _ _ (by decide)]; exact h2 j hj
  · refine relG_c hG (fun f => oth 4 0 f (by decide) (by decide) (fun q => absurd q (by decide)) (by decide)) (fun k f => oth 18 k f (by decide) (by decide) (fun q => absurd q (by decide)) (by decide)) ⟨tk_30 (by decide), fun k => tk_o k (by decide), fun k => tk_o k (by decide), fun k => tk_o k (by decide)⟩
  · obtain ⟨t1, t2, t3, t4, t5⟩ := hT
    refine ⟨?_, ?_, ?_, ?_, ?_⟩
    · rw [oth 0 0 6 (by decide) (by decide) (by decide) (by decide), tk_30 (by decide)]; exact t1
    · rw [tk_rd]; unfold tkI cfI tkI0
      split <;> simp [ku, t2]
    · rw [tk_rd]
      unfold tkI cfI
      by_cases q : m.1 58 c = 0
      · rw [if_pos (z0.mpr q)]; simp [ku, q, tkI0, t3]
      · rw [if_neg (fun z => q (z0.mp z))]; simp [ku, q, tkI0, t3]
    · rw [tk_2]
      unfold cfL
      split
      · simp [ku]; exact t4
      · exact t4
    · rw [tk_rd]
      unfold cfL
      by_cases q : m.1 58 c = 0
      · rw [if_pos (z0.mpr q)]
        obtain ⟨t', a', s', j1, j2, j3, j4, j5, j6⟩ := hI.2.2.2.2.2.2.2.2
        obtain ⟨t, bg, lg, g1, g2, g3, g4, g5, g6, g7, g8⟩ := hI.2.2.2.2.2.2.1
        obtain ⟨p, p1, p2⟩ := g7 c hc
        have ett : t' = t := (nI_eq (by omega) (by omega)).mp (j1.symm.trans g1)
        have ha : a' ≤ 150 := by
          have : cnt58 m ≤ (List.range (mC m)).length := List.countP_le_length
          rw [List.length_range] at this
          have := hI.2.2.1
          omega
        have hs' : s' ≤ 150 * 300000 := Nat.le_trans j6 (Nat.mul_le_mul ha (by omega))
        simp [ku, tkI0, q]
        rw [t5, t1, c3, j4, j1, p1, nI_subL (by omega)]
        rw [← nI_long (by omega)]
        congr 1
        exact (nI_add s' (t' - p)).symm
      · rw [if_neg (fun z => q (z0.mp z))]; simp [q]; exact t5
end RT
