/-! BITS (the first family of kit/laws/BITS.to-paste, and what is made of it) -/
/-! ===== Int32 by its bits: bt x i ===== -/
def bt (x : Int32) (i : Nat) : Bool := x.toBitVec.getLsbD i
theorem b_ext {x y : Int32} (h : ∀ i, i < 32 → bt x i = bt y i) : x = y := Int32.toBitVec_inj.mp (BitVec.eq_of_getLsbD_eq (fun i hi => h i hi))
theorem b_or (x y : Int32) (i : Nat) : bt (x ||| y) i = (bt x i || bt y i) := by unfold bt; rw [Int32.toBitVec_or, BitVec.getLsbD_or]
theorem b_and (x y : Int32) (i : Nat) : bt (x &&& y) i = (bt x i && bt y i) := by unfold bt; rw [Int32.toBitVec_and, BitVec.getLsbD_and]
theorem b_xor (x y : Int32) (i : Nat) : bt (x ^^^ y) i = (bt x i ^^ bt y i) := by unfold bt; rw [Int32.toBitVec_xor, BitVec.getLsbD_xor]
theorem b_big {x : Int32} {i : Nat} (h : 32 ≤ i) : bt x i = false := BitVec.getLsbD_of_ge _ _ h
theorem b_m1 : ∀ i, i < 32 → bt (-1) i = true := by decide +kernel
theorem b_0 (i : Nat) : bt 0 i = false := BitVec.getLsbD_zero
theorem s_l : ∀ n, n < 32 → ((nI n &&& 31).toBitVec.smod 32).toNat = n := by decide +kernel
theorem s_u : ∀ n, n < 32 → (((nI n).toUInt32 &&& Int32.toUInt32 31).toBitVec % 32).toNat = n := by decide +kernel
theorem b_shl (n : Nat) (hn : n < 32) (x : Int32) {i : Nat} (hi : i < 32) : bt (x <<< (nI n &&& 31)) i = (decide (n ≤ i) && bt x (i - n)) := by
  unfold bt
  rw [Int32.toBitVec_shiftLeft]
  show (x.toBitVec <<< ((nI n &&& 31).toBitVec.smod 32).toNat).getLsbD i = _
  rw [s_l n hn, BitVec.getLsbD_shiftLeft]
  rcases Nat.lt_or_ge i n with h | h
  · simp [h, Nat.not_le.mpr h]
  · simp [hi, h, Nat.not_lt.mpr h]
theorem b_ushr (n : Nat) (hn : n < 32) (x : Int32) (i : Nat) : bt ((x.toUInt32 >>> ((nI n).toUInt32 &&& Int32.toUInt32 31)).toInt32) i = bt x (n + i) := by
  show (x.toUInt32 >>> ((nI n).toUInt32 &&& Int32.toUInt32 31)).toBitVec.getLsbD i = x.toUInt32.toBitVec.getLsbD (n + i)
  rw [UInt32.toBitVec_shiftRight]
  show (x.toUInt32.toBitVec >>> (((nI n).toUInt32 &&& Int32.toUInt32 31).toBitVec % 32).toNat).getLsbD i = _
  rw [s_u n hn, BitVec.getLsbD_ushiftRight]
theorem b_sshr (n : Nat) (hn : n < 32) (x : Int32) {i : Nat} (hi : i < 32) : bt (x >>> (nI n &&& 31)) i = if n + i < 32 then bt x (n + i) else bt x 31 := by
  unfold bt
  rw [Int32.toBitVec_shiftRight]
  show (x.toBitVec.sshiftRight ((nI n &&& 31).toBitVec.smod 32).toNat).getLsbD i = _
  rw [s_l n hn, BitVec.getLsbD_sshiftRight, BitVec.msb_eq_getLsbD_last]
  simp [hi]

theorem bt_1 : ∀ i, i < 32 → bt 1 i = decide (i = 0) := by decide +kernel
theorem b_one {j : Nat} (hj : j < 32) {i : Nat} (hi : i < 32) : bt ((1 : Int32) <<< (nI j &&& 31)) i = decide (i = j) := by
  rw [b_shl j hj _ hi]
  by_cases h : j ≤ i
  · rw [bt_1 (i - j) (by omega)]
    simp only [h, decide_true, Bool.true_and]
    exact decide_eq_decide.mpr (by omega)
  · simp only [h, decide_false, Bool.false_and]
    rw [decide_eq_false (by omega)]
theorem b_ne0 {x : Int32} {i : Nat} (hi : i < 32) (h : bt x i = true) : x ≠ 0 := by
  intro e
  rw [e, b_0] at h
  cases h
/-- a bit is in a number -/
theorem bit_and {w : Int32} {j : Nat} (hj : j < 32) : (w &&& ((1 : Int32) <<< (nI j &&& 31)) ≠ 0) ↔ bt w j = true := by
  constructor
  · intro h
    cases hb : bt w j with
    | true => rfl
    | false =>
      exfalso
      apply h
      apply b_ext
      intro i hi
      rw [b_and, b_one hj hi, b_0]
      by_cases e : i = j
      · subst e; rw [hb]; rfl
      · simp [e]
  · intro h
    apply b_ne0 hj
    rw [b_and, b_one hj hj, h]
    simp
theorem bit_shr {w : Int32} {j : Nat} (hj : j < 32) : ((w >>> (nI j &&& 31)) &&& 1 = 1) ↔ bt w j = true := by
  have h0 : bt ((w >>> (nI j &&& 31)) &&& 1) 0 = bt w j := by
    rw [b_and, b_sshr j hj _ (by decide), bt_1 0 (by decide), if_pos (by omega)]
    simp
  constructor
  · intro h
    rw [h, bt_1 0 (by decide)] at h0
    rw [← h0]; rfl
  · intro h
    apply b_ext
    intro i hi
    by_cases e : i = 0
    · subst e; rw [h0, h, bt_1 0 (by decide)]; rfl
    · rw [b_and, bt_1 i hi]
      simp [e]
theorem gBits_fold {l : List Nat} {b : Int32} {i : Nat} (hi : i < 32) (hl : ∀ x ∈ l, x < 32) : bt (l.foldl (fun b s => b ||| ((1 : Int32) <<< (nI s &&& 31))) b) i = (bt b i || decide (i ∈ l)) := by
  induction l generalizing b with
  | nil => simp
  | cons x l ih =>
    rw [List.foldl_cons, ih (fun y hy => hl y (List.mem_cons_of_mem _ hy)), b_or, b_one (hl x List.mem_cons_self) hi]
    simp [Bool.or_assoc]
theorem gBits_bt {l : List Nat} {i : Nat} (hi : i < 32) (hl : ∀ x ∈ l, x < 32) : bt (gBits l) i = decide (i ∈ l) := by
  unfold gBits
  rw [gBits_fold hi hl, b_0]
  simp
theorem gBits_0 {l : List Nat} (hl : ∀ x ∈ l, x < 32) : gBits l ≠ 0 ↔ l ≠ [] := by
  constructor
  · intro h e
    rw [e] at h
    exact h rfl
  · intro h
    cases l with
    | nil => exact absurd rfl h
    | cons x l =>
      have hx := hl x List.mem_cons_self
      apply b_ne0 hx
      rw [gBits_bt hx hl]
      simp
