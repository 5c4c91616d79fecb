def kRet (v : Option Value) (w : va_W) : kQT := fun r w' => r = v ∧ w' = w
def kF : kXT := fun _ _ => False
def kb (b : Bool) : Int32 := if b then 1 else 0
theorem kb_t : kb true = 1 := rfl
theorem kb_f : kb false = 0 := rfl
theorem kb_nar (b : Bool) : narrow .boolean (.int (kb b)) = .int (kb b) := by cases b <;> rfl
theorem kb_0 {b : Bool} : kb b = 0 ↔ b = false := by cases b <;> decide
theorem kb_1 {b : Bool} : kb b = 1 ↔ b = true := by cases b <;> decide
theorem kb_n0 {b : Bool} : ¬ kb b = 0 ↔ b = true := by cases b <;> decide
theorem kb_n1 {b : Bool} : ¬ kb b = 1 ↔ b = false := by cases b <;> decide
theorem vr_n : va_rf none = .null := rfl
theorem vr_s (a : Nat) : va_rf (some a) = .ref a := rfl
theorem vp_in_lt {x : Int32} {n : Nat} (h : vp_in x n) : x.toNatClampNeg < n := Nat.not_le.mp fun q => h (Or.inr q)
theorem vp3 {c : Int32} (h0 : ¬ c < 0) (h1 : ¬ 3 ≤ c) : vp_in c 3 := by
  have e : (3 : Int32).toInt = 3 := by decide
  have e0 : (0 : Int32).toInt = 0 := by decide
  rw [Int32.lt_iff_toInt_lt] at h0
  rw [Int32.le_iff_toInt_le] at h1
  rw [vp_in_iff]
  omega
theorem nI_toNat {n : Nat} (h : n < 2 ^ 31) : (nI n).toNatClampNeg = n := nI_clamp h
theorem opt_split {α : Type} (r : Option α) : r = none ∨ ∃ a, r = some a := by
  cases r with
  | none => exact Or.inl rfl
  | some a => exact Or.inr ⟨a, rfl⟩
theorem nI_subL {a n : Nat} (h : n ≤ a) : nI a - nI n = nI (a - n) := by
  obtain ⟨k, rfl⟩ := Nat.exists_eq_add_of_le h
  rw [Nat.add_sub_cancel_left, ← nI_add]
  have := Int32.add_sub_cancel (nI k) (nI n)
  rw [Int32.add_comm]; exact this
theorem nI_decL {a : Nat} (h : 1 ≤ a) : nI a + Int32.ofInt (-1) = nI (a - 1) := by
  have h1 : nI a - nI 1 = nI (a - 1) := nI_subL h
  rw [← h1, Int32.sub_eq_add_neg]; rfl
theorem nI_eqL {a b : Nat} (ha : a < 2 ^ 31) (hb : b < 2 ^ 31) : nI a = nI b ↔ a = b := nI_eq ha hb
section KH
variable {own nm : String} {cc : ByteArray} {nL : Nat} {ret : Option FieldType} {d mc ms : Nat} {cy : Nat → ClassId} {Q : kQT} {QX : kXT} {pc : Nat} {lv lv' : List (Nat × Value)} {st rest : List Value} {w : va_W} {cells slots : Nat}
variable {S : Nat → Nat → Nat} {I : kI} {L : kL} {R R' : kRf} {NL : List (Nat × Nat)} {k i n : Nat} {cA : ClassId}
theorem J_topv {v v' : Value} (h : v = v') (kk : J own nm cc nL ret d mc ms cy Q QX pc lv (v' :: rest) w cells slots) : J own nm cc nL ret d mc ms cy Q QX pc lv (v :: rest) w cells slots := by rw [h]; exact kk
/-- a call (by its address) into an array -/
theorem J_aastR {f : Nat → Option Nat} {x : Int32} {a : Nat} (j t0 : Nat) (hm : (k, i) ∈ NL) (he : shA cy S k i (I k i) (L k i) (R k i) = .inl (cA, n, .inr (.inr (.inr (.inr f))))) (ht : (kTys cy)[t0]? = some (cA, .object "FoghornExchange$RadioCall")) (hm2 : (20, a) ∈ NL) (hin : vp_in x n) (hj : x.toNatClampNeg = j)
    (he' : .inl (cA, n, .inr (.inr (.inr (.inr (va_up f j (some a)))))) = shA cy S k i (I k i) (L k i) (R' k i)) (ho : ∀ k' i', (k', i') ≠ (k, i) → I k' i' = I k' i' ∧ L k' i' = L k' i' ∧ R' k' i' = R k' i') (hd : decode cc pc = .ok (.aastore, 1))
    (kk : J own nm cc nL ret d mc ms cy Q QX (pc + 1) lv rest (kw S (shA cy S) I L R' NL) cells slots) : J own nm cc nL ret d mc ms cy Q QX pc lv (.ref a :: .int x :: .ref (ka S k i) :: rest) (kw S (shA cy S) I L R NL) cells slots := by
  have e := ka_20 S a
  have h := J_aast (k := k) (i := i) (k2 := 20) (i2 := a) (S := S) (sh := shA cy S) (I := I) (I' := I) (L := L) (L' := L) (R := R) (R' := R') (C := "FoghornExchange$RadioCall") (T := TX5) (N := 13) (ci := 7) (rest := rest) (x := x) j t0 hm he ht hm2 rfl rfl hin hj (by rw [e]; exact he') ho hd kk
  rw [e] at h
  exact h
theorem J_abs {index : Nat} {x : Int32} (hlink : Cond.methodLink own index Lib.Math.abs.name ∈ kT) (hd1 : 1 ≤ d) (hst : (rest.map fun v => v.category).sum ≤ 8) (hc : cells ≤ mc) (hs : slots ≤ ms) (hd : decode cc pc = .ok (.invokestatic index, 3))
    (kk : J own nm cc nL ret d mc ms cy Q QX (pc + 3) lv (.int (if 0 ≤ x then x else 0 - x) :: rest) w cells slots) : J own nm cc nL ret d mc ms cy Q QX pc lv (.int x :: rest) w cells slots := by
  intro p l e s m args below meth c D A C0 H locs ls hP hD hS hll
  exact va_mabs C0.1 C0.2.1 (C0.2.2.1.trans hll.1.symm) C0.2.2.2.2.2.2.2.1 (C0.hts _ hlink) (C0.hts _ (kT_of (i := 378) (by decide +kernel) rfl)) (C0.hts _ (kT_of (i := 66) (by decide +kernel) rfl)) (C0.hts _ (kT_of (i := 379) (by decide +kernel) rfl)) hd1 (by show _ + 13 ≤ 40 * d + 100; omega) hc hs hd (kk p l e s m args below meth c D A C0 H locs ls hP hD hS hll)
theorem J_min {index : Nat} {x y : Int32} (hlink : Cond.methodLink own index Lib.Math.min.name ∈ kT) (hd1 : 1 ≤ d) (hst : (rest.map fun v => v.category).sum ≤ 8) (hc : cells ≤ mc) (hs : slots ≤ ms) (hd : decode cc pc = .ok (.invokestatic index, 3))
    (kk : J own nm cc nL ret d mc ms cy Q QX (pc + 3) lv (.int (if y < x then y else x) :: rest) w cells slots) : J own nm cc nL ret d mc ms cy Q QX pc lv (.int y :: .int x :: rest) w cells slots := by
  intro p l e s m args below meth c D A C0 H locs ls hP hD hS hll
  exact va_mmin C0.1 C0.2.1 (C0.2.2.1.trans hll.1.symm) C0.2.2.2.2.2.2.2.1 (C0.hts _ hlink) (C0.hts _ (kT_of (i := 381) (by decide +kernel) rfl)) (C0.hts _ (kT_of (i := 66) (by decide +kernel) rfl)) (C0.hts _ (kT_of (i := 382) (by decide +kernel) rfl)) hd1 (by show _ + 13 ≤ 40 * d + 100; omega) hc hs hd (kk p l e s m args below meth c D A C0 H locs ls hP hD hS hll)
end KH
theorem lm_6_27 : Cond.methodLink RX6 27 Lib.Math.abs.name ∈ kT := kT_of (i := 377) (by decide +kernel) rfl
theorem lm_6_36 : Cond.methodLink RX6 36 Lib.Math.min.name ∈ kT := kT_of (i := 380) (by decide +kernel) rfl
theorem lm_1_84 : Cond.methodLink RX1 84 Lib.Math.min.name ∈ kT := kT_of (i := 451) (by decide +kernel) rfl
theorem lm_4_35 : Cond.methodLink RX4 35 Lib.Math.min.name ∈ kT := kT_of (i := 533) (by decide +kernel) rfl
