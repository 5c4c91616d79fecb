/-! doubles and floats: quotients of whole numbers by small ones other than 0 are no NaN -/

theorem fd_tails : FP.Core.b64.tails = 4503599627370496 := by decide +kernel
theorem fd_exps : FP.Core.b64.exps = 2048 := by decide +kernel
theorem fd_qmin : FP.Core.b64.qmin = (-1074) := by decide +kernel
theorem fd_qmax : FP.Core.b64.qmax = 971 := by decide +kernel
theorem fd_p : 2 ^ FP.Core.b64.p = 9007199254740992 := by decide +kernel
/-- bits of a number or an infinity -/
def fd_N (n : Nat) : Prop := ∃ (s : Bool) (e t : Nat), n = (s.toNat * 2048 + e) * 4503599627370496 + t ∧ e ≤ 2047 ∧ t < 4503599627370496 ∧ (e = 2047 → t = 0)
theorem fd_fin {s : Bool} {c : Nat} {q : Int} (hc : c < 9007199254740992) (h1 : (-1074) ≤ q) (h2 : q ≤ 971) : ∃ e t : Nat, FP.Core.encode FP.Core.b64 (.fin s c q) = (s.toNat * 2048 + e) * 4503599627370496 + t ∧ e ≤ 2046 ∧ t < 4503599627370496 ∧ (4503599627370496 ≤ c → 1 ≤ e) := by
  by_cases h : c < 4503599627370496
  · refine ⟨0, c, ?_, by omega, h, fun z => absurd h (by omega)⟩
    show (if c < FP.Core.b64.tails then _ else _) = _
    rw [fd_tails, if_pos h]
    show (s.toNat * FP.Core.b64.exps + 0) * FP.Core.b64.tails + c = _
    rw [fd_tails, fd_exps]
  · refine ⟨(q - (-1074)).toNat + 1, c - 4503599627370496, ?_, by omega, by omega, fun _ => by omega⟩
    show (if c < FP.Core.b64.tails then _ else _) = _
    rw [fd_tails, if_neg h]
    show (s.toNat * FP.Core.b64.exps + ((q - FP.Core.b64.qmin).toNat + 1)) * FP.Core.b64.tails + (c - 4503599627370496) = _
    rw [fd_tails, fd_exps, fd_qmin]
theorem fd_inf (s : Bool) : fd_N (FP.Core.encode FP.Core.b64 (.inf s)) := by
  refine ⟨s, 2047, 0, ?_, by omega, by omega, fun _ => rfl⟩
  show (s.toNat * FP.Core.b64.exps + (FP.Core.b64.exps - 1)) * FP.Core.b64.tails + 0 = _
  rw [fd_tails, fd_exps]
theorem fd_ok {n : Nat} (h : fd_N n) : vf_n64 (UInt64.ofNat n) := by
  obtain ⟨s, e, t, rfl, he, ht, hz⟩ := h
  show UInt64.ofNat _ &&& 0x7fffffffffffffff ≤ 0x7ff0000000000000
  rw [UInt64.le_iff_toNat_le, UInt64.toNat_and, UInt64.toNat_ofNat']
  have e1 : (0x7fffffffffffffff : UInt64).toNat = 2 ^ 63 - 1 := by decide
  have e2 : (0x7ff0000000000000 : UInt64).toNat = 9218868437227405312 := by decide
  rw [e1, e2, Nat.and_two_pow_sub_one_eq_mod]
  cases s
  · simp only [Bool.toNat_false]
    omega
  · simp only [Bool.toNat_true]
    omega
theorem fd_dec {n : Nat} (h : fd_N n) : FP.Core.decode FP.Core.b64 (UInt64.ofNat n).toNat ≠ .nan ∧ ∀ s e t, n = (Bool.toNat s * 2048 + e) * 4503599627370496 + t → 1 ≤ e → e ≤ 2046 → t < 4503599627370496 → ∃ s' c q, FP.Core.decode FP.Core.b64 (UInt64.ofNat n).toNat = .fin s' c q ∧ c ≠ 0 := by
  have hlt : (UInt64.ofNat n).toNat = n := by
    obtain ⟨s, e, t, rfl, he, ht, hz⟩ := h
    rw [UInt64.toNat_ofNat']
    cases s
    · simp only [Bool.toNat_false]; omega
    · simp only [Bool.toNat_true]; omega
  rw [hlt]
  have hE : ∀ (s : Bool) (e t : Nat), e ≤ 2047 → t < 4503599627370496 → FP.Core.fieldE FP.Core.b64 ((s.toNat * 2048 + e) * 4503599627370496 + t) = e ∧ FP.Core.fieldT FP.Core.b64 ((s.toNat * 2048 + e) * 4503599627370496 + t) = t := by
    intro s e t he ht
    refine ⟨?_, ?_⟩
    · show ((s.toNat * 2048 + e) * 4503599627370496 + t) / FP.Core.b64.tails % FP.Core.b64.exps = e
      rw [fd_tails, fd_exps]
      cases s
      · simp only [Bool.toNat_false]; omega
      · simp only [Bool.toNat_true]; omega
    · show ((s.toNat * 2048 + e) * 4503599627370496 + t) % FP.Core.b64.tails = t
      rw [fd_tails]
      omega
  constructor
  · obtain ⟨s, e, t, rfl, he, ht, hz⟩ := h
    obtain ⟨a, b⟩ := hE s e t he ht
    intro z
    unfold FP.Core.decode at z
    rw [a, b, fd_exps] at z
    by_cases h1 : e = 2048 - 1
    · rw [if_pos h1, if_pos (hz h1)] at z; cases z
    · rw [if_neg h1] at z
      split at z <;> cases z
  · intro s e t hn h1 h2 h3
    subst hn
    obtain ⟨a, b⟩ := hE s e t (by omega) h3
    refine ⟨FP.Core.fieldS FP.Core.b64 ((s.toNat * 2048 + e) * 4503599627370496 + t), 4503599627370496 + t, FP.Core.b64.qmin + ((e : Int) - 1), ?_, by omega⟩
    unfold FP.Core.decode
    rw [a, b, fd_exps, fd_tails, if_neg (by omega), if_neg (by omega)]
theorem fd_settle {s : Bool} {c : Nat} {q : Int} (h1 : (-1074) ≤ q) : fd_N (FP.Core.encode FP.Core.b64 (FP.Core.settle FP.Core.b64 s c q)) := by
  have hb : ∀ (c : Nat) (q : Int), c < 9007199254740992 → (-1074) ≤ q → fd_N (FP.Core.encode FP.Core.b64 (FP.Core.bound FP.Core.b64 s c q)) := by
    intro c q hc h1
    unfold FP.Core.bound
    rw [fd_qmax]
    split
    · next h2 =>
      obtain ⟨e, t, a, b, c', d⟩ := fd_fin (s := s) hc h1 h2
      exact ⟨s, e, t, a, by omega, c', fun z => by omega⟩
    · exact fd_inf s
  unfold FP.Core.settle
  rw [fd_p, fd_tails]
  split
  · next h => exact hb c q h h1
  · exact hb _ _ (by omega) (by omega)
theorem fd_round {s : Bool} {num den : Nat} {e : Int} : fd_N (FP.Core.encode FP.Core.b64 (FP.Core.roundRatio FP.Core.b64 s num den e)) := by
  unfold FP.Core.roundRatio
  split
  · rw [fd_qmin]
    obtain ⟨e, t, a, b, c', d⟩ := fd_fin (s := s) (c := 0) (q := (-1074)) (by omega) (by omega) (by omega)
    exact ⟨s, e, t, a, by omega, c', fun z => by omega⟩
  · refine fd_settle ?_
    unfold FP.Core.quantum
    rw [fd_qmin]
    exact Int.le_max_left _ _
theorem fd_int (i : Int) : fd_N (FP.Core.fromInt FP.Core.b64 i) := fd_round
/-- a small whole number other than 0 is a number other than 0 -/
theorem fd_nat {i : Int} (h0 : i ≠ 0) (hl : i.natAbs < 9007199254740992) : ∃ s c q, FP.Core.decode FP.Core.b64 (UInt64.ofNat (FP.Core.fromInt FP.Core.b64 i)).toNat = .fin s c q ∧ c ≠ 0 := by
  have hne : i.natAbs ≠ 0 := by omega
  have hpw : FP.Core.b64.p = 53 := rfl
  have hlog := Nat.log2_self_le hne
  have hlt : i.natAbs < 2 ^ (i.natAbs.log2 + 1) := Nat.lt_log2_self
  have hk : i.natAbs.log2 ≤ 52 := by
    have := (Nat.log2_lt hne).mpr (show i.natAbs < 2 ^ 53 by omega)
    omega
  have hlead : FP.Core.leading i.natAbs 1 = (i.natAbs.log2 : Int) := by
    unfold FP.Core.leading
    have e1 : ((1 : Nat).log2 : Int) = 0 := by decide
    simp only [e1, Int.sub_zero]
    rw [if_pos]
    have e2 : (-(i.natAbs.log2 : Int)).toNat = 0 := by omega
    rw [e2]
    simpa using hlog
  have hq : FP.Core.quantum FP.Core.b64 i.natAbs 1 0 = (i.natAbs.log2 : Int) - 52 := by
    unfold FP.Core.quantum
    rw [hlead, fd_qmin, hpw]
    omega
  have hr : FP.Core.round FP.Core.b64 (FP.Core.ofInt i) = FP.Core.settle FP.Core.b64 (decide (i < 0)) (i.natAbs * 2 ^ (52 - i.natAbs.log2)) ((i.natAbs.log2 : Int) - 52) := by
    show FP.Core.roundRatio FP.Core.b64 (decide (i < 0)) i.natAbs 1 0 = _
    unfold FP.Core.roundRatio
    rw [if_neg hne, hq]
    unfold FP.Core.roundAt FP.Core.unitsNum FP.Core.unitsDen FP.Core.nearest
    have e1 : (0 - ((i.natAbs.log2 : Int) - 52)).toNat = 52 - i.natAbs.log2 := by omega
    have e2 : ((i.natAbs.log2 : Int) - 52 - 0).toNat = 0 := by omega
    rw [e1, e2]
    simp [Nat.mod_one]
  have hc1 : 4503599627370496 ≤ i.natAbs * 2 ^ (52 - i.natAbs.log2) := by
    have : 2 ^ i.natAbs.log2 * 2 ^ (52 - i.natAbs.log2) = 2 ^ 52 := by rw [← Nat.pow_add]; congr 1; omega
    have h2 := Nat.mul_le_mul_right (2 ^ (52 - i.natAbs.log2)) hlog
    rw [this] at h2
    exact h2
  have hc2 : i.natAbs * 2 ^ (52 - i.natAbs.log2) < 9007199254740992 := by
    have : 2 ^ (i.natAbs.log2 + 1) * 2 ^ (52 - i.natAbs.log2) = 2 ^ 53 := by rw [← Nat.pow_add]; congr 1; omega
    have h2 := Nat.mul_lt_mul_of_pos_right hlt (Nat.two_pow_pos (52 - i.natAbs.log2))
    rw [this] at h2
    exact h2
  have hs : FP.Core.settle FP.Core.b64 (decide (i < 0)) (i.natAbs * 2 ^ (52 - i.natAbs.log2)) ((i.natAbs.log2 : Int) - 52) = .fin (decide (i < 0)) (i.natAbs * 2 ^ (52 - i.natAbs.log2)) ((i.natAbs.log2 : Int) - 52) := by
    unfold FP.Core.settle FP.Core.bound
    rw [fd_p, if_pos hc2, fd_qmax, if_pos (by omega)]
  obtain ⟨e, t, a, b, c', d⟩ := fd_fin (s := decide (i < 0)) hc2 (q := (i.natAbs.log2 : Int) - 52) (by omega) (by omega)
  have hn : FP.Core.fromInt FP.Core.b64 i = ((decide (i < 0)).toNat * 2048 + e) * 4503599627370496 + t := by
    unfold FP.Core.fromInt
    rw [hr, hs, a]
  exact (fd_dec (fd_int i)).2 _ e t hn (d hc1) b c'
/-- a quotient by such a number is a number or an infinity -/
theorem fd_div {a b : Nat} (ha : FP.Core.decode FP.Core.b64 a ≠ .nan) (hb : ∃ s c q, FP.Core.decode FP.Core.b64 b = .fin s c q ∧ c ≠ 0) : fd_N (FP.Core.div FP.Core.b64 a b) := by
  obtain ⟨s, c, q, e, hc⟩ := hb
  unfold FP.Core.div
  rw [e]
  cases h : FP.Core.decode FP.Core.b64 a with
  | nan => exact absurd h ha
  | inf s' => exact fd_inf _
  | fin s' c' q' =>
    show fd_N (FP.Core.encode FP.Core.b64 (if c = 0 then _ else _))
    rw [if_neg hc]
    exact fd_round

theorem ff_tails : FP.Core.b32.tails = 8388608 := by decide +kernel
theorem ff_exps : FP.Core.b32.exps = 256 := by decide +kernel
theorem ff_qmin : FP.Core.b32.qmin = (-149) := by decide +kernel
theorem ff_qmax : FP.Core.b32.qmax = 104 := by decide +kernel
theorem ff_p : 2 ^ FP.Core.b32.p = 16777216 := by decide +kernel
/-- bits of a number or an infinity -/
def ff_N (n : Nat) : Prop := ∃ (s : Bool) (e t : Nat), n = (s.toNat * 256 + e) * 8388608 + t ∧ e ≤ 255 ∧ t < 8388608 ∧ (e = 255 → t = 0)
theorem ff_fin {s : Bool} {c : Nat} {q : Int} (hc : c < 16777216) (h1 : (-149) ≤ q) (h2 : q ≤ 104) : ∃ e t : Nat, FP.Core.encode FP.Core.b32 (.fin s c q) = (s.toNat * 256 + e) * 8388608 + t ∧ e ≤ 254 ∧ t < 8388608 ∧ (8388608 ≤ c → 1 ≤ e) := by
  by_cases h : c < 8388608
  · refine ⟨0, c, ?_, by omega, h, fun z => absurd h (by omega)⟩
    show (if c < FP.Core.b32.tails then _ else _) = _
    rw [ff_tails, if_pos h]
    show (s.toNat * FP.Core.b32.exps + 0) * FP.Core.b32.tails + c = _
    rw [ff_tails, ff_exps]
  · refine ⟨(q - (-149)).toNat + 1, c - 8388608, ?_, by omega, by omega, fun _ => by omega⟩
    show (if c < FP.Core.b32.tails then _ else _) = _
    rw [ff_tails, if_neg h]
    show (s.toNat * FP.Core.b32.exps + ((q - FP.Core.b32.qmin).toNat + 1)) * FP.Core.b32.tails + (c - 8388608) = _
    rw [ff_tails, ff_exps, ff_qmin]
theorem ff_inf (s : Bool) : ff_N (FP.Core.encode FP.Core.b32 (.inf s)) := by
  refine ⟨s, 255, 0, ?_, by omega, by omega, fun _ => rfl⟩
  show (s.toNat * FP.Core.b32.exps + (FP.Core.b32.exps - 1)) * FP.Core.b32.tails + 0 = _
  rw [ff_tails, ff_exps]
theorem ff_ok {n : Nat} (h : ff_N n) : vf_n32 (UInt32.ofNat n) := by
  obtain ⟨s, e, t, rfl, he, ht, hz⟩ := h
  show UInt32.ofNat _ &&& 0x7fffffff ≤ 0x7f800000
  rw [UInt32.le_iff_toNat_le, UInt32.toNat_and, UInt32.toNat_ofNat']
  have e1 : (0x7fffffff : UInt32).toNat = 2 ^ 31 - 1 := by decide
  have e2 : (0x7f800000 : UInt32).toNat = 2139095040 := by decide
  rw [e1, e2, Nat.and_two_pow_sub_one_eq_mod]
  cases s
  · simp only [Bool.toNat_false]
    omega
  · simp only [Bool.toNat_true]
    omega
theorem ff_dec {n : Nat} (h : ff_N n) : FP.Core.decode FP.Core.b32 (UInt32.ofNat n).toNat ≠ .nan ∧ ∀ s e t, n = (Bool.toNat s * 256 + e) * 8388608 + t → 1 ≤ e → e ≤ 254 → t < 8388608 → ∃ s' c q, FP.Core.decode FP.Core.b32 (UInt32.ofNat n).toNat = .fin s' c q ∧ c ≠ 0 := by
  have hlt : (UInt32.ofNat n).toNat = n := by
    obtain ⟨s, e, t, rfl, he, ht, hz⟩ := h
    rw [UInt32.toNat_ofNat']
    cases s
    · simp only [Bool.toNat_false]; omega
    · simp only [Bool.toNat_true]; omega
  rw [hlt]
  have hE : ∀ (s : Bool) (e t : Nat), e ≤ 255 → t < 8388608 → FP.Core.fieldE FP.Core.b32 ((s.toNat * 256 + e) * 8388608 + t) = e ∧ FP.Core.fieldT FP.Core.b32 ((s.toNat * 256 + e) * 8388608 + t) = t := by
    intro s e t he ht
    refine ⟨?_, ?_⟩
    · show ((s.toNat * 256 + e) * 8388608 + t) / FP.Core.b32.tails % FP.Core.b32.exps = e
      rw [ff_tails, ff_exps]
      cases s
      · simp only [Bool.toNat_false]; omega
      · simp only [Bool.toNat_true]; omega
    · show ((s.toNat * 256 + e) * 8388608 + t) % FP.Core.b32.tails = t
      rw [ff_tails]
      omega
  constructor
  · obtain ⟨s, e, t, rfl, he, ht, hz⟩ := h
    obtain ⟨a, b⟩ := hE s e t he ht
    intro z
    unfold FP.Core.decode at z
    rw [a, b, ff_exps] at z
    by_cases h1 : e = 256 - 1
    · rw [if_pos h1, if_pos (hz h1)] at z; cases z
    · rw [if_neg h1] at z
      split at z <;> cases z
  · intro s e t hn h1 h2 h3
    subst hn
    obtain ⟨a, b⟩ := hE s e t (by omega) h3
    refine ⟨FP.Core.fieldS FP.Core.b32 ((s.toNat * 256 + e) * 8388608 + t), 8388608 + t, FP.Core.b32.qmin + ((e : Int) - 1), ?_, by omega⟩
    unfold FP.Core.decode
    rw [a, b, ff_exps, ff_tails, if_neg (by omega), if_neg (by omega)]
theorem ff_settle {s : Bool} {c : Nat} {q : Int} (h1 : (-149) ≤ q) : ff_N (FP.Core.encode FP.Core.b32 (FP.Core.settle FP.Core.b32 s c q)) := by
  have hb : ∀ (c : Nat) (q : Int), c < 16777216 → (-149) ≤ q → ff_N (FP.Core.encode FP.Core.b32 (FP.Core.bound FP.Core.b32 s c q)) := by
    intro c q hc h1
    unfold FP.Core.bound
    rw [ff_qmax]
    split
    · next h2 =>
      obtain ⟨e, t, a, b, c', d⟩ := ff_fin (s := s) hc h1 h2
      exact ⟨s, e, t, a, by omega, c', fun z => by omega⟩
    · exact ff_inf s
  unfold FP.Core.settle
  rw [ff_p, ff_tails]
  split
  · next h => exact hb c q h h1
  · exact hb _ _ (by omega) (by omega)
theorem ff_round {s : Bool} {num den : Nat} {e : Int} : ff_N (FP.Core.encode FP.Core.b32 (FP.Core.roundRatio FP.Core.b32 s num den e)) := by
  unfold FP.Core.roundRatio
  split
  · rw [ff_qmin]
    obtain ⟨e, t, a, b, c', d⟩ := ff_fin (s := s) (c := 0) (q := (-149)) (by omega) (by omega) (by omega)
    exact ⟨s, e, t, a, by omega, c', fun z => by omega⟩
  · refine ff_settle ?_
    unfold FP.Core.quantum
    rw [ff_qmin]
    exact Int.le_max_left _ _
theorem ff_int (i : Int) : ff_N (FP.Core.fromInt FP.Core.b32 i) := ff_round
/-- a small whole number other than 0 is a number other than 0 -/
theorem ff_nat {i : Int} (h0 : i ≠ 0) (hl : i.natAbs < 16777216) : ∃ s c q, FP.Core.decode FP.Core.b32 (UInt32.ofNat (FP.Core.fromInt FP.Core.b32 i)).toNat = .fin s c q ∧ c ≠ 0 := by
  have hne : i.natAbs ≠ 0 := by omega
  have hpw : FP.Core.b32.p = 24 := rfl
  have hlog := Nat.log2_self_le hne
  have hlt : i.natAbs < 2 ^ (i.natAbs.log2 + 1) := Nat.lt_log2_self
  have hk : i.natAbs.log2 ≤ 23 := by
    have := (Nat.log2_lt hne).mpr (show i.natAbs < 2 ^ 24 by omega)
    omega
  have hlead : FP.Core.leading i.natAbs 1 = (i.natAbs.log2 : Int) := by
    unfold FP.Core.leading
    have e1 : ((1 : Nat).log2 : Int) = 0 := by decide
    simp only [e1, Int.sub_zero]
    rw [if_pos]
    have e2 : (-(i.natAbs.log2 : Int)).toNat = 0 := by omega
    rw [e2]
    simpa using hlog
  have hq : FP.Core.quantum FP.Core.b32 i.natAbs 1 0 = (i.natAbs.log2 : Int) - 23 := by
    unfold FP.Core.quantum
    rw [hlead, ff_qmin, hpw]
    omega
  have hr : FP.Core.round FP.Core.b32 (FP.Core.ofInt i) = FP.Core.settle FP.Core.b32 (decide (i < 0)) (i.natAbs * 2 ^ (23 - i.natAbs.log2)) ((i.natAbs.log2 : Int) - 23) := by
    show FP.Core.roundRatio FP.Core.b32 (decide (i < 0)) i.natAbs 1 0 = _
    unfold FP.Core.roundRatio
    rw [if_neg hne, hq]
    unfold FP.Core.roundAt FP.Core.unitsNum FP.Core.unitsDen FP.Core.nearest
    have e1 : (0 - ((i.natAbs.log2 : Int) - 23)).toNat = 23 - i.natAbs.log2 := by omega
    have e2 : ((i.natAbs.log2 : Int) - 23 - 0).toNat = 0 := by omega
    rw [e1, e2]
    simp [Nat.mod_one]
  have hc1 : 8388608 ≤ i.natAbs * 2 ^ (23 - i.natAbs.log2) := by
    have : 2 ^ i.natAbs.log2 * 2 ^ (23 - i.natAbs.log2) = 2 ^ 23 := by rw [← Nat.pow_add]; congr 1; omega
    have h2 := Nat.mul_le_mul_right (2 ^ (23 - i.natAbs.log2)) hlog
    rw [this] at h2
    exact h2
  have hc2 : i.natAbs * 2 ^ (23 - i.natAbs.log2) < 16777216 := by
    have : 2 ^ (i.natAbs.log2 + 1) * 2 ^ (23 - i.natAbs.log2) = 2 ^ 24 := by rw [← Nat.pow_add]; congr 1; omega
    have h2 := Nat.mul_lt_mul_of_pos_right hlt (Nat.two_pow_pos (23 - i.natAbs.log2))
    rw [this] at h2
    exact h2
  have hs : FP.Core.settle FP.Core.b32 (decide (i < 0)) (i.natAbs * 2 ^ (23 - i.natAbs.log2)) ((i.natAbs.log2 : Int) - 23) = .fin (decide (i < 0)) (i.natAbs * 2 ^ (23 - i.natAbs.log2)) ((i.natAbs.log2 : Int) - 23) := by
    unfold FP.Core.settle FP.Core.bound
    rw [ff_p, if_pos hc2, ff_qmax, if_pos (by omega)]
  obtain ⟨e, t, a, b, c', d⟩ := ff_fin (s := decide (i < 0)) hc2 (q := (i.natAbs.log2 : Int) - 23) (by omega) (by omega)
  have hn : FP.Core.fromInt FP.Core.b32 i = ((decide (i < 0)).toNat * 256 + e) * 8388608 + t := by
    unfold FP.Core.fromInt
    rw [hr, hs, a]
  exact (ff_dec (ff_int i)).2 _ e t hn (d hc1) b c'
/-- a quotient by such a number is a number or an infinity -/
theorem ff_div {a b : Nat} (ha : FP.Core.decode FP.Core.b32 a ≠ .nan) (hb : ∃ s c q, FP.Core.decode FP.Core.b32 b = .fin s c q ∧ c ≠ 0) : ff_N (FP.Core.div FP.Core.b32 a b) := by
  obtain ⟨s, c, q, e, hc⟩ := hb
  unfold FP.Core.div
  rw [e]
  cases h : FP.Core.decode FP.Core.b32 a with
  | nan => exact absurd h ha
  | inf s' => exact ff_inf _
  | fin s' c' q' =>
    show ff_N (FP.Core.encode FP.Core.b32 (if c = 0 then _ else _))
    rw [if_neg hc]
    exact ff_round

theorem ddiv_ok {x : Int64} {y : Int32} (hy : y ≠ 0) : vf_n64 (FP.ddiv (FP.l2d x) (FP.i2d y)) := by
  refine fd_ok (fd_div (fd_dec (fd_int _)).1 (fd_nat ?_ ?_))
  · intro z; exact hy (Int32.toInt_inj.mp (z.trans (by decide)))
  · have h1 := Int32.toInt_lt y
    have h2 := Int32.le_toInt y
    omega
theorem ddiv_ok2 {x y : Int32} (hy : y ≠ 0) : vf_n64 (FP.ddiv (FP.i2d x) (FP.i2d y)) := by
  refine fd_ok (fd_div (fd_dec (fd_int _)).1 (fd_nat ?_ ?_))
  · intro z; exact hy (Int32.toInt_inj.mp (z.trans (by decide)))
  · have h1 := Int32.toInt_lt y
    have h2 := Int32.le_toInt y
    omega
theorem fdiv_N {x : Int32} {n : Nat} (h0 : n ≠ 0) (hn : n < 16777216) : ff_N (FP.Core.div FP.Core.b32 (FP.i2f x).toNat (FP.i2f (nI n)).toNat) := by
  have e := nI_toInt (n := n) (by omega)
  refine ff_div (ff_dec (ff_int _)).1 (ff_nat ?_ ?_)
  · omega
  · omega
theorem fdiv_ok {x : Int32} {n : Nat} (h0 : n ≠ 0) (hn : n < 16777216) : vf_n32 (FP.fdiv (FP.i2f x) (FP.i2f (nI n))) := ff_ok (fdiv_N h0 hn)
theorem l2d_i2d (x : Int32) : FP.l2d x.toInt64 = FP.i2d x := by
  show UInt64.ofNat (FP.Core.fromInt FP.Core.b64 x.toInt64.toInt) = UInt64.ofNat (FP.Core.fromInt FP.Core.b64 x.toInt)
  rw [Int32.toInt_toInt64]
/-- a float that is no NaN, as a double: no NaN -/
theorem order_self {d : FP.Core.Datum} (h : d ≠ .nan) : FP.Core.order d d = some .eq := by
  cases d with
  | nan => exact absurd rfl h
  | inf s => simp [FP.Core.order, compare, compareOfLessAndEq]
  | fin s c q => simp [FP.Core.order, compare, compareOfLessAndEq]
theorem dcmp_self {n : Nat} (h : fd_N n) : FP.dcmp (UInt64.ofNat n) (UInt64.ofNat n) = some .eq := order_self (fd_dec h).1
theorem f2d_ok {n : Nat} (h : ff_N n) : vf_n64 (FP.f2d (UInt32.ofNat n)) ∧ FP.dcmp (FP.f2d (UInt32.ofNat n)) (FP.f2d (UInt32.ofNat n)) = some .eq := by
  have hd := (ff_dec h).1
  have e : FP.f2d (UInt32.ofNat n) = FP.Core.f2d (UInt32.ofNat n) := by
    unfold FP.f2d
    rw [if_neg]
    intro z
    exact hd (of_decide_eq_true z)
  have hN : fd_N (FP.Core.convert FP.Core.b32 FP.Core.b64 (UInt32.ofNat n).toNat) := by
    unfold FP.Core.convert
    cases hc : FP.Core.decode FP.Core.b32 (UInt32.ofNat n).toNat with
    | nan => exact absurd hc hd
    | inf s => exact fd_inf s
    | fin s c q => exact fd_round
  rw [e]
  refine ⟨fd_ok hN, ?_⟩
  exact dcmp_self hN

