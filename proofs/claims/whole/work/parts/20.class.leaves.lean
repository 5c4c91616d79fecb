/-! the class's leaves: what they answer, the world as it was -/
abbrev kabs (x : Int32) : Int32 := if 0 ≤ x then x else 0 - x
abbrev kmin (x y : Int32) : Int32 := if y < x then y else x
/-- do two stations hear each other -/
def linkB (I : kI) (a b : Nat) : Bool := decide (I 17 a 2 ≠ 0) && (decide (I 17 b 2 ≠ 0) && decide (kabs (I 17 a 0 - I 17 b 0) ≤ kmin (I 17 a 1) (I 17 b 1)))
def openF (I : kI) (a : Nat) : Bool := decide (I 20 a 7 = 119) || decide (I 20 a 7 = 115)
def mayF (I : kI) (a : Nat) (c : Int32) : Bool := decide (0 < c) || decide (2 ≤ I 20 a 5)
def ahdF (I : kI) (a b : Nat) : Bool := if I 20 a 5 = I 20 b 5 then decide (I 20 a 0 < I 20 b 0) else decide (I 20 b 5 < I 20 a 5)
def brkF (I : kI) (a b : Nat) : Bool := decide (2 ≤ I 20 a 5) && decide (I 20 b 5 < I 20 a 5)
def shrF (I : kI) (a : Nat) (v : Int32) : Bool := decide (I 20 a 9 &&& v ≠ 0)
def watF (I : kI) (s : Nat) : Bool := decide (0 < I 17 s 3)
def misF (I : kI) (s : Nat) (t : Int32) : Bool := decide (I 17 s 2 ≠ 0) && (watF I s && decide (I 17 s 3 < t - I 17 s 4))
def easF (I : kI) (a b : Nat) : Bool := if I 20 a 5 = I 20 b 5 then decide (I 20 b 11 < I 20 a 11) else decide (I 20 a 5 < I 20 b 5)
def plcF (p : Int32) : Bool := decide (0 ≤ p) && decide (p ≤ 300)
def wghtF (u : Int32) : Int32 := if u = 100 then 3 else if u = 117 then 2 else if u = 115 then 1 else if u = 114 then 0 else -1

set_option maxRecDepth 20000 in
theorem c_X7_isPlace {cy : Nat → ClassId} {w : va_W} {p : Int32}  : Con yX7_isPlace cX7_isPlace 1 (some .boolean) 0 0 0 cy [.int p] w (kRet (some (.int (kb (plcF p)))) w) kF := by
  refine Con_of (by decide +kernel) (Nat.le_of_ble_eq_true rfl) ?_
  refine J_eq (lv' := [(0, .int p)]) rfl rfl rfl ?_
  refine J_iload_n 0 rfl dX7_isPlace_0 ?_
  refine J_if_lt 15 (by decide) dX7_isPlace_1 (fun c1 => ?_) (fun c1 => ?_)
  · skip
    refine J_iconst (v := 0) (by decide) dX7_isPlace_15 ?_
    exact J_ireturn rfl (by first | rfl | assumption | simp [kb_nar]) dX7_isPlace_16 (⟨by (try simp only [kb_0, kb_1, kb_n0, kb_n1, decide_eq_false_iff_not, decide_eq_true_eq, ne_eq, Classical.not_not] at *); first | (simp [kb, kb_0, kb_1, vr_n, vr_s, plcF, *]; done) | (simp [kb, kb_0, kb_1, vr_n, vr_s, plcF, *] <;> grind), rfl⟩) (by omega) (by omega)
  · skip
    refine J_iload_n 0 rfl dX7_isPlace_4 ?_
    refine J_sipush (v := 300) (by decide) dX7_isPlace_5 ?_
    refine J_icmp_gt 15 (by decide) dX7_isPlace_8 (fun c2 => ?_) (fun c2 => ?_)
    · skip
      refine J_iconst (v := 0) (by decide) dX7_isPlace_15 ?_
      exact J_ireturn rfl (by first | rfl | assumption | simp [kb_nar]) dX7_isPlace_16 (⟨by (try simp only [kb_0, kb_1, kb_n0, kb_n1, decide_eq_false_iff_not, decide_eq_true_eq, ne_eq, Classical.not_not] at *); first | (simp [kb, kb_0, kb_1, vr_n, vr_s, plcF, *]; done) | (simp [kb, kb_0, kb_1, vr_n, vr_s, plcF, *] <;> grind), rfl⟩) (by omega) (by omega)
    · skip
      refine J_iconst (v := 1) (by decide) dX7_isPlace_11 ?_
      refine J_goto 16 (by decide) dX7_isPlace_12 ?_
      exact J_ireturn rfl (by first | rfl | assumption | simp [kb_nar]) dX7_isPlace_16 (⟨by (try simp only [kb_0, kb_1, kb_n0, kb_n1, decide_eq_false_iff_not, decide_eq_true_eq, ne_eq, Classical.not_not] at *); first | (simp [kb, kb_0, kb_1, vr_n, vr_s, plcF, *]; done) | (simp [kb, kb_0, kb_1, vr_n, vr_s, plcF, *] <;> grind), rfl⟩) (by omega) (by omega)

set_option maxRecDepth 20000 in
theorem c_X5_isOpen {cy : Nat → ClassId} {S : Nat → Nat → Nat} {I : kI} {L : kL} {R : kRf} {LP : List Nat} {a : Nat} (ha : a ∈ LP) : Con yX5_isOpen cX5_isOpen 1 (some .boolean) 0 0 0 cy [.ref a] (wc cy S I L R LP) (kRet (some (.int (kb (openF I a)))) (wc cy S I L R LP)) kF := by
  refine Con_of (by decide +kernel) (Nat.le_of_ble_eq_true rfl) ?_
  refine J_eq (lv' := [(0, .ref a)]) rfl rfl rfl ?_
  refine J_aload_n 0 rfl dX5_isOpen_0 ?_
  refine gf_5_27 (n20 (by assumption)) dX5_isOpen_1 ?_
  refine J_bipush (v := 119) (by decide) dX5_isOpen_4 ?_
  refine J_icmp_eq 18 (by decide) dX5_isOpen_6 (fun c1 => ?_) (fun c1 => ?_)
  · skip
    refine J_iconst (v := 1) (by decide) dX5_isOpen_18 ?_
    refine J_goto 23 (by decide) dX5_isOpen_19 ?_
    exact J_ireturn rfl (by first | rfl | assumption | simp [kb_nar]) dX5_isOpen_23 (⟨by (try simp only [kb_0, kb_1, kb_n0, kb_n1, decide_eq_false_iff_not, decide_eq_true_eq, ne_eq, Classical.not_not] at *); first | (simp [kb, kb_0, kb_1, vr_n, vr_s, openF, *]; done) | (simp [kb, kb_0, kb_1, vr_n, vr_s, openF, *] <;> grind), rfl⟩) (by omega) (by omega)
  · skip
    refine J_aload_n 0 rfl dX5_isOpen_9 ?_
    refine gf_5_27 (n20 (by assumption)) dX5_isOpen_10 ?_
    refine J_bipush (v := 115) (by decide) dX5_isOpen_13 ?_
    refine J_icmp_ne 22 (by decide) dX5_isOpen_15 (fun c2 => ?_) (fun c2 => ?_)
    · skip
      refine J_iconst (v := 0) (by decide) dX5_isOpen_22 ?_
      exact J_ireturn rfl (by first | rfl | assumption | simp [kb_nar]) dX5_isOpen_23 (⟨by (try simp only [kb_0, kb_1, kb_n0, kb_n1, decide_eq_false_iff_not, decide_eq_true_eq, ne_eq, Classical.not_not] at *); first | (simp [kb, kb_0, kb_1, vr_n, vr_s, openF, *]; done) | (simp [kb, kb_0, kb_1, vr_n, vr_s, openF, *] <;> grind), rfl⟩) (by omega) (by omega)
    · skip
      refine J_iconst (v := 1) (by decide) dX5_isOpen_18 ?_
      refine J_goto 23 (by decide) dX5_isOpen_19 ?_
      exact J_ireturn rfl (by first | rfl | assumption | simp [kb_nar]) dX5_isOpen_23 (⟨by (try simp only [kb_0, kb_1, kb_n0, kb_n1, decide_eq_false_iff_not, decide_eq_true_eq, ne_eq, Classical.not_not] at *); first | (simp [kb, kb_0, kb_1, vr_n, vr_s, openF, *]; done) | (simp [kb, kb_0, kb_1, vr_n, vr_s, openF, *] <;> grind), rfl⟩) (by omega) (by omega)

set_option maxRecDepth 20000 in
theorem c_X5_mayHave {cy : Nat → ClassId} {S : Nat → Nat → Nat} {I : kI} {L : kL} {R : kRf} {LP : List Nat} {a : Nat} {c : Int32} (ha : a ∈ LP) : Con yX5_mayHave cX5_mayHave 2 (some .boolean) 0 0 0 cy [.ref a, .int c] (wc cy S I L R LP) (kRet (some (.int (kb (mayF I a c)))) (wc cy S I L R LP)) kF := by
  refine Con_of (by decide +kernel) (Nat.le_of_ble_eq_true rfl) ?_
  refine J_eq (lv' := [(0, .ref a), (1, .int c)]) rfl rfl rfl ?_
  refine J_iload_n 1 rfl dX5_mayHave_0 ?_
  refine J_if_gt 12 (by decide) dX5_mayHave_1 (fun c1 => ?_) (fun c1 => ?_)
  · skip
    refine J_iconst (v := 1) (by decide) dX5_mayHave_12 ?_
    refine J_goto 17 (by decide) dX5_mayHave_13 ?_
    exact J_ireturn rfl (by first | rfl | assumption | simp [kb_nar]) dX5_mayHave_17 (⟨by (try simp only [kb_0, kb_1, kb_n0, kb_n1, decide_eq_false_iff_not, decide_eq_true_eq, ne_eq, Classical.not_not] at *); first | (simp [kb, kb_0, kb_1, vr_n, vr_s, mayF, *]; done) | (simp [kb, kb_0, kb_1, vr_n, vr_s, mayF, *] <;> grind), rfl⟩) (by omega) (by omega)
  · skip
    refine J_aload_n 0 rfl dX5_mayHave_4 ?_
    refine gf_5_41 (n20 (by assumption)) dX5_mayHave_5 ?_
    refine J_iconst (v := 2) (by decide) dX5_mayHave_8 ?_
    refine J_icmp_lt 16 (by decide) dX5_mayHave_9 (fun c2 => ?_) (fun c2 => ?_)
    · skip
      refine J_iconst (v := 0) (by decide) dX5_mayHave_16 ?_
      exact J_ireturn rfl (by first | rfl | assumption | simp [kb_nar]) dX5_mayHave_17 (⟨by (try simp only [kb_0, kb_1, kb_n0, kb_n1, decide_eq_false_iff_not, decide_eq_true_eq, ne_eq, Classical.not_not] at *); first | (simp [kb, kb_0, kb_1, vr_n, vr_s, mayF, *]; done) | (simp [kb, kb_0, kb_1, vr_n, vr_s, mayF, *] <;> grind), rfl⟩) (by omega) (by omega)
    · skip
      refine J_iconst (v := 1) (by decide) dX5_mayHave_12 ?_
      refine J_goto 17 (by decide) dX5_mayHave_13 ?_
      exact J_ireturn rfl (by first | rfl | assumption | simp [kb_nar]) dX5_mayHave_17 (⟨by (try simp only [kb_0, kb_1, kb_n0, kb_n1, decide_eq_false_iff_not, decide_eq_true_eq, ne_eq, Classical.not_not] at *); first | (simp [kb, kb_0, kb_1, vr_n, vr_s, mayF, *]; done) | (simp [kb, kb_0, kb_1, vr_n, vr_s, mayF, *] <;> grind), rfl⟩) (by omega) (by omega)

set_option maxRecDepth 20000 in
theorem c_X5_isAheadOf {cy : Nat → ClassId} {S : Nat → Nat → Nat} {I : kI} {L : kL} {R : kRf} {LP : List Nat} {a b : Nat} (ha : a ∈ LP) (hb : b ∈ LP) : Con yX5_isAheadOf cX5_isAheadOf 2 (some .boolean) 0 0 0 cy [.ref a, .ref b] (wc cy S I L R LP) (kRet (some (.int (kb (ahdF I a b)))) (wc cy S I L R LP)) kF := by
  refine Con_of (by decide +kernel) (Nat.le_of_ble_eq_true rfl) ?_
  refine J_eq (lv' := [(0, .ref a), (1, .ref b)]) rfl rfl rfl ?_
  refine J_aload_n 0 rfl dX5_isAheadOf_0 ?_
  refine gf_5_41 (n20 (by assumption)) dX5_isAheadOf_1 ?_
  refine J_aload_n 1 rfl dX5_isAheadOf_4 ?_
  refine gf_5_41 (n20 (by assumption)) dX5_isAheadOf_5 ?_
  refine J_icmp_eq 30 (by decide) dX5_isAheadOf_8 (fun c1 => ?_) (fun c1 => ?_)
  · skip
    refine J_aload_n 0 rfl dX5_isAheadOf_30 ?_
    refine gf_5_9 (n20 (by assumption)) dX5_isAheadOf_31 ?_
    refine J_aload_n 1 rfl dX5_isAheadOf_34 ?_
    refine gf_5_9 (n20 (by assumption)) dX5_isAheadOf_35 ?_
    refine J_icmp_ge 45 (by decide) dX5_isAheadOf_38 (fun c2 => ?_) (fun c2 => ?_)
    · skip
      refine J_iconst (v := 0) (by decide) dX5_isAheadOf_45 ?_
      exact J_ireturn rfl (by first | rfl | assumption | simp [kb_nar]) dX5_isAheadOf_46 (⟨by (try simp only [kb_0, kb_1, kb_n0, kb_n1, decide_eq_false_iff_not, decide_eq_true_eq, ne_eq, Classical.not_not] at *); first | (simp [kb, kb_0, kb_1, vr_n, vr_s, ahdF, *]; done) | (simp [kb, kb_0, kb_1, vr_n, vr_s, ahdF, *] <;> grind), rfl⟩) (by omega) (by omega)
    · skip
      refine J_iconst (v := 1) (by decide) dX5_isAheadOf_41 ?_
      refine J_goto 46 (by decide) dX5_isAheadOf_42 ?_
      exact J_ireturn rfl (by first | rfl | assumption | simp [kb_nar]) dX5_isAheadOf_46 (⟨by (try simp only [kb_0, kb_1, kb_n0, kb_n1, decide_eq_false_iff_not, decide_eq_true_eq, ne_eq, Classical.not_not] at *); first | (simp [kb, kb_0, kb_1, vr_n, vr_s, ahdF, *]; done) | (simp [kb, kb_0, kb_1, vr_n, vr_s, ahdF, *] <;> grind), rfl⟩) (by omega) (by omega)
  · skip
    refine J_aload_n 0 rfl dX5_isAheadOf_11 ?_
    refine gf_5_41 (n20 (by assumption)) dX5_isAheadOf_12 ?_
    refine J_aload_n 1 rfl dX5_isAheadOf_15 ?_
    refine gf_5_41 (n20 (by assumption)) dX5_isAheadOf_16 ?_
    refine J_icmp_le 26 (by decide) dX5_isAheadOf_19 (fun c3 => ?_) (fun c3 => ?_)
    · skip
      refine J_iconst (v := 0) (by decide) dX5_isAheadOf_26 ?_
      refine J_goto 46 (by decide) dX5_isAheadOf_27 ?_
      exact J_ireturn rfl (by first | rfl | assumption | simp [kb_nar]) dX5_isAheadOf_46 (⟨by (try simp only [kb_0, kb_1, kb_n0, kb_n1, decide_eq_false_iff_not, decide_eq_true_eq, ne_eq, Classical.not_not] at *); first | (simp [kb, kb_0, kb_1, vr_n, vr_s, ahdF, *]; done) | (simp [kb, kb_0, kb_1, vr_n, vr_s, ahdF, *] <;> grind), rfl⟩) (by omega) (by omega)
    · skip
      refine J_iconst (v := 1) (by decide) dX5_isAheadOf_22 ?_
      refine J_goto 46 (by decide) dX5_isAheadOf_23 ?_
      exact J_ireturn rfl (by first | rfl | assumption | simp [kb_nar]) dX5_isAheadOf_46 (⟨by (try simp only [kb_0, kb_1, kb_n0, kb_n1, decide_eq_false_iff_not, decide_eq_true_eq, ne_eq, Classical.not_not] at *); first | (simp [kb, kb_0, kb_1, vr_n, vr_s, ahdF, *]; done) | (simp [kb, kb_0, kb_1, vr_n, vr_s, ahdF, *] <;> grind), rfl⟩) (by omega) (by omega)

set_option maxRecDepth 20000 in
theorem c_X5_canBreakInOn {cy : Nat → ClassId} {S : Nat → Nat → Nat} {I : kI} {L : kL} {R : kRf} {LP : List Nat} {a b : Nat} (ha : a ∈ LP) (hb : b ∈ LP) : Con yX5_canBreakInOn cX5_canBreakInOn 2 (some .boolean) 0 0 0 cy [.ref a, .ref b] (wc cy S I L R LP) (kRet (some (.int (kb (brkF I a b)))) (wc cy S I L R LP)) kF := by
  refine Con_of (by decide +kernel) (Nat.le_of_ble_eq_true rfl) ?_
  refine J_eq (lv' := [(0, .ref a), (1, .ref b)]) rfl rfl rfl ?_
  refine J_aload_n 0 rfl dX5_canBreakInOn_0 ?_
  refine gf_5_41 (n20 (by assumption)) dX5_canBreakInOn_1 ?_
  refine J_iconst (v := 2) (by decide) dX5_canBreakInOn_4 ?_
  refine J_icmp_lt 23 (by decide) dX5_canBreakInOn_5 (fun c1 => ?_) (fun c1 => ?_)
  · skip
    refine J_iconst (v := 0) (by decide) dX5_canBreakInOn_23 ?_
    exact J_ireturn rfl (by first | rfl | assumption | simp [kb_nar]) dX5_canBreakInOn_24 (⟨by (try simp only [kb_0, kb_1, kb_n0, kb_n1, decide_eq_false_iff_not, decide_eq_true_eq, ne_eq, Classical.not_not] at *); first | (simp [kb, kb_0, kb_1, vr_n, vr_s, brkF, *]; done) | (simp [kb, kb_0, kb_1, vr_n, vr_s, brkF, *] <;> grind), rfl⟩) (by omega) (by omega)
  · skip
    refine J_aload_n 0 rfl dX5_canBreakInOn_8 ?_
    refine gf_5_41 (n20 (by assumption)) dX5_canBreakInOn_9 ?_
    refine J_aload_n 1 rfl dX5_canBreakInOn_12 ?_
    refine gf_5_41 (n20 (by assumption)) dX5_canBreakInOn_13 ?_
    refine J_icmp_le 23 (by decide) dX5_canBreakInOn_16 (fun c2 => ?_) (fun c2 => ?_)
    · skip
      refine J_iconst (v := 0) (by decide) dX5_canBreakInOn_23 ?_
      exact J_ireturn rfl (by first | rfl | assumption | simp [kb_nar]) dX5_canBreakInOn_24 (⟨by (try simp only [kb_0, kb_1, kb_n0, kb_n1, decide_eq_false_iff_not, decide_eq_true_eq, ne_eq, Classical.not_not] at *); first | (simp [kb, kb_0, kb_1, vr_n, vr_s, brkF, *]; done) | (simp [kb, kb_0, kb_1, vr_n, vr_s, brkF, *] <;> grind), rfl⟩) (by omega) (by omega)
    · skip
      refine J_iconst (v := 1) (by decide) dX5_canBreakInOn_19 ?_
      refine J_goto 24 (by decide) dX5_canBreakInOn_20 ?_
      exact J_ireturn rfl (by first | rfl | assumption | simp [kb_nar]) dX5_canBreakInOn_24 (⟨by (try simp only [kb_0, kb_1, kb_n0, kb_n1, decide_eq_false_iff_not, decide_eq_true_eq, ne_eq, Classical.not_not] at *); first | (simp [kb, kb_0, kb_1, vr_n, vr_s, brkF, *]; done) | (simp [kb, kb_0, kb_1, vr_n, vr_s, brkF, *] <;> grind), rfl⟩) (by omega) (by omega)

set_option maxRecDepth 20000 in
theorem c_X5_sharesStationWith {cy : Nat → ClassId} {S : Nat → Nat → Nat} {I : kI} {L : kL} {R : kRf} {LP : List Nat} {a : Nat} {v : Int32} (ha : a ∈ LP) : Con yX5_sharesStationWith cX5_sharesStationWith 2 (some .boolean) 0 0 0 cy [.ref a, .int v] (wc cy S I L R LP) (kRet (some (.int (kb (shrF I a v)))) (wc cy S I L R LP)) kF := by
  refine Con_of (by decide +kernel) (Nat.le_of_ble_eq_true rfl) ?_
  refine J_eq (lv' := [(0, .ref a), (1, .int v)]) rfl rfl rfl ?_
  refine J_aload_n 0 rfl dX5_sharesStationWith_0 ?_
  refine gf_5_44 (n20 (by assumption)) dX5_sharesStationWith_1 ?_
  refine J_iload_n 1 rfl dX5_sharesStationWith_4 ?_
  refine J_iand dX5_sharesStationWith_5 ?_
  refine J_if_eq 13 (by decide) dX5_sharesStationWith_6 (fun c1 => ?_) (fun c1 => ?_)
  · skip
    refine J_iconst (v := 0) (by decide) dX5_sharesStationWith_13 ?_
    exact J_ireturn rfl (by first | rfl | assumption | simp [kb_nar]) dX5_sharesStationWith_14 (⟨by (try simp only [kb_0, kb_1, kb_n0, kb_n1, decide_eq_false_iff_not, decide_eq_true_eq, ne_eq, Classical.not_not] at *); first | (simp [kb, kb_0, kb_1, vr_n, vr_s, shrF, *]; done) | (simp [kb, kb_0, kb_1, vr_n, vr_s, shrF, *] <;> grind), rfl⟩) (by omega) (by omega)
  · skip
    refine J_iconst (v := 1) (by decide) dX5_sharesStationWith_9 ?_
    refine J_goto 14 (by decide) dX5_sharesStationWith_10 ?_
    exact J_ireturn rfl (by first | rfl | assumption | simp [kb_nar]) dX5_sharesStationWith_14 (⟨by (try simp only [kb_0, kb_1, kb_n0, kb_n1, decide_eq_false_iff_not, decide_eq_true_eq, ne_eq, Classical.not_not] at *); first | (simp [kb, kb_0, kb_1, vr_n, vr_s, shrF, *]; done) | (simp [kb, kb_0, kb_1, vr_n, vr_s, shrF, *] <;> grind), rfl⟩) (by omega) (by omega)

set_option maxRecDepth 20000 in
theorem c_X6_hasWatch {cy : Nat → ClassId} {S : Nat → Nat → Nat} {I : kI} {L : kL} {R : kRf} {LP : List Nat} {s : Nat} (hs : s < 10) : Con yX6_hasWatch cX6_hasWatch 1 (some .boolean) 0 0 0 cy [.ref (ka S 17 s)] (wc cy S I L R LP) (kRet (some (.int (kb (watF I s)))) (wc cy S I L R LP)) kF := by
  refine Con_of (by decide +kernel) (Nat.le_of_ble_eq_true rfl) ?_
  refine J_eq (lv' := [(0, .ref (ka S 17 s))]) rfl rfl rfl ?_
  refine J_aload_n 0 rfl dX6_hasWatch_0 ?_
  refine gf_6_7 (n17 _ (by omega)) dX6_hasWatch_1 ?_
  refine J_if_le 11 (by decide) dX6_hasWatch_4 (fun c1 => ?_) (fun c1 => ?_)
  · skip
    refine J_iconst (v := 0) (by decide) dX6_hasWatch_11 ?_
    exact J_ireturn rfl (by first | rfl | assumption | simp [kb_nar]) dX6_hasWatch_12 (⟨by (try simp only [kb_0, kb_1, kb_n0, kb_n1, decide_eq_false_iff_not, decide_eq_true_eq, ne_eq, Classical.not_not] at *); first | (simp [kb, kb_0, kb_1, vr_n, vr_s, watF, *]; done) | (simp [kb, kb_0, kb_1, vr_n, vr_s, watF, *] <;> grind), rfl⟩) (by omega) (by omega)
  · skip
    refine J_iconst (v := 1) (by decide) dX6_hasWatch_7 ?_
    refine J_goto 12 (by decide) dX6_hasWatch_8 ?_
    exact J_ireturn rfl (by first | rfl | assumption | simp [kb_nar]) dX6_hasWatch_12 (⟨by (try simp only [kb_0, kb_1, kb_n0, kb_n1, decide_eq_false_iff_not, decide_eq_true_eq, ne_eq, Classical.not_not] at *); first | (simp [kb, kb_0, kb_1, vr_n, vr_s, watF, *]; done) | (simp [kb, kb_0, kb_1, vr_n, vr_s, watF, *] <;> grind), rfl⟩) (by omega) (by omega)

set_option maxRecDepth 20000 in
theorem c_X6_missesWatchAt {cy : Nat → ClassId} {S : Nat → Nat → Nat} {I : kI} {L : kL} {R : kRf} {LP : List Nat} {s : Nat} {t : Int32} (hs : s < 10) : Con yX6_missesWatchAt cX6_missesWatchAt 2 (some .boolean) 1 0 0 cy [.ref (ka S 17 s), .int t] (wc cy S I L R LP) (kRet (some (.int (kb (misF I s t)))) (wc cy S I L R LP)) kF := by
  refine Con_of (by decide +kernel) (Nat.le_of_ble_eq_true rfl) ?_
  refine J_eq (lv' := [(0, .ref (ka S 17 s)), (1, .int t)]) rfl rfl rfl ?_
  refine J_aload_n 0 rfl dX6_missesWatchAt_0 ?_
  refine gf_6_13 (n17 _ (by omega)) dX6_missesWatchAt_1 ?_
  refine J_if_eq 31 (by decide) dX6_missesWatchAt_4 (fun c1 => ?_) (fun c1 => ?_)
  · skip
    refine J_iconst (v := 0) (by decide) dX6_missesWatchAt_31 ?_
    exact J_ireturn rfl (by first | rfl | assumption | simp [kb_nar]) dX6_missesWatchAt_32 (⟨by (try simp only [kb_0, kb_1, kb_n0, kb_n1, decide_eq_false_iff_not, decide_eq_true_eq, ne_eq, Classical.not_not] at *); first | (simp [kb, kb_0, kb_1, vr_n, vr_s, misF, *]; done) | (simp [kb, kb_0, kb_1, vr_n, vr_s, misF, *] <;> grind), rfl⟩) (by omega) (by omega)
  · skip
    refine J_aload_n 0 rfl dX6_missesWatchAt_7 ?_
    refine cv_6_17 (cells' := 0) (slots' := 0) dX6_missesWatchAt_8 (c_X6_hasWatch hs) (n17 _ (by omega)) ⟨by decide, by decide⟩ rfl rfl (by decide) (by decide) (Nat.le_of_ble_eq_true rfl) (fun _ _ r2 => ?_) (fun _ _ h => h.elim)
    obtain ⟨rfl, rfl⟩ := r2
    refine J_eq (st' := [.int (kb (watF I s))]) rfl rfl rfl ?_
    refine J_if_eq 31 (by decide) dX6_missesWatchAt_11 (fun c3 => ?_) (fun c3 => ?_)
    · skip
      refine J_iconst (v := 0) (by decide) dX6_missesWatchAt_31 ?_
      exact J_ireturn rfl (by first | rfl | assumption | simp [kb_nar]) dX6_missesWatchAt_32 (⟨by (try simp only [kb_0, kb_1, kb_n0, kb_n1, decide_eq_false_iff_not, decide_eq_true_eq, ne_eq, Classical.not_not] at *); first | (simp [kb, kb_0, kb_1, vr_n, vr_s, misF, *]; done) | (simp [kb, kb_0, kb_1, vr_n, vr_s, misF, *] <;> grind), rfl⟩) (by omega) (by omega)
    · skip
      refine J_iload_n 1 rfl dX6_missesWatchAt_14 ?_
      refine J_aload_n 0 rfl dX6_missesWatchAt_15 ?_
      refine gf_6_21 (n17 _ (by omega)) dX6_missesWatchAt_16 ?_
      refine J_isub dX6_missesWatchAt_19 ?_
      refine J_aload_n 0 rfl dX6_missesWatchAt_20 ?_
      refine gf_6_7 (n17 _ (by omega)) dX6_missesWatchAt_21 ?_
      refine J_icmp_le 31 (by decide) dX6_missesWatchAt_24 (fun c4 => ?_) (fun c4 => ?_)
      · skip
        refine J_iconst (v := 0) (by decide) dX6_missesWatchAt_31 ?_
        exact J_ireturn rfl (by first | rfl | assumption | simp [kb_nar]) dX6_missesWatchAt_32 (⟨by (try simp only [kb_0, kb_1, kb_n0, kb_n1, decide_eq_false_iff_not, decide_eq_true_eq, ne_eq, Classical.not_not] at *); first | (simp [kb, kb_0, kb_1, vr_n, vr_s, misF, *]; done) | (simp [kb, kb_0, kb_1, vr_n, vr_s, misF, *] <;> grind), rfl⟩) (by omega) (by omega)
      · skip
        refine J_iconst (v := 1) (by decide) dX6_missesWatchAt_27 ?_
        refine J_goto 32 (by decide) dX6_missesWatchAt_28 ?_
        exact J_ireturn rfl (by first | rfl | assumption | simp [kb_nar]) dX6_missesWatchAt_32 (⟨by (try simp only [kb_0, kb_1, kb_n0, kb_n1, decide_eq_false_iff_not, decide_eq_true_eq, ne_eq, Classical.not_not] at *); first | (simp [kb, kb_0, kb_1, vr_n, vr_s, misF, *]; done) | (simp [kb, kb_0, kb_1, vr_n, vr_s, misF, *] <;> grind), rfl⟩) (by omega) (by omega)

set_option maxRecDepth 20000 in
theorem c_X6_isLinkedTo {cy : Nat → ClassId} {S : Nat → Nat → Nat} {I : kI} {L : kL} {R : kRf} {LP : List Nat} {s t : Nat} (hs : s < 10) (ht : t < 10) : Con yX6_isLinkedTo cX6_isLinkedTo 2 (some .boolean) 1 0 0 cy [.ref (ka S 17 s), .ref (ka S 17 t)] (wc cy S I L R LP) (kRet (some (.int (kb (linkB I s t)))) (wc cy S I L R LP)) kF := by
  refine Con_of (by decide +kernel) (Nat.le_of_ble_eq_true rfl) ?_
  refine J_eq (lv' := [(0, .ref (ka S 17 s)), (1, .ref (ka S 17 t))]) rfl rfl rfl ?_
  refine J_aload_n 0 rfl dX6_isLinkedTo_0 ?_
  refine gf_6_13 (n17 _ (by omega)) dX6_isLinkedTo_1 ?_
  refine J_if_eq 44 (by decide) dX6_isLinkedTo_4 (fun c1 => ?_) (fun c1 => ?_)
  · skip
    refine J_iconst (v := 0) (by decide) dX6_isLinkedTo_44 ?_
    exact J_ireturn rfl (by first | rfl | assumption | simp [kb_nar]) dX6_isLinkedTo_45 (⟨by (try simp only [kb_0, kb_1, kb_n0, kb_n1, decide_eq_false_iff_not, decide_eq_true_eq, ne_eq, Classical.not_not] at *); first | (simp [kb, kb_0, kb_1, vr_n, vr_s, linkB, *]; done) | (simp [kb, kb_0, kb_1, vr_n, vr_s, linkB, *] <;> grind), rfl⟩) (by omega) (by omega)
  · skip
    refine J_aload_n 1 rfl dX6_isLinkedTo_7 ?_
    refine gf_6_13 (n17 _ (by omega)) dX6_isLinkedTo_8 ?_
    refine J_if_eq 44 (by decide) dX6_isLinkedTo_11 (fun c2 => ?_) (fun c2 => ?_)
    · skip
      refine J_iconst (v := 0) (by decide) dX6_isLinkedTo_44 ?_
      exact J_ireturn rfl (by first | rfl | assumption | simp [kb_nar]) dX6_isLinkedTo_45 (⟨by (try simp only [kb_0, kb_1, kb_n0, kb_n1, decide_eq_false_iff_not, decide_eq_true_eq, ne_eq, Classical.not_not] at *); first | (simp [kb, kb_0, kb_1, vr_n, vr_s, linkB, *]; done) | (simp [kb, kb_0, kb_1, vr_n, vr_s, linkB, *] <;> grind), rfl⟩) (by omega) (by omega)
    · skip
      refine J_aload_n 0 rfl dX6_isLinkedTo_14 ?_
      refine gf_6_24 (n17 _ (by omega)) dX6_isLinkedTo_15 ?_
      refine J_aload_n 1 rfl dX6_isLinkedTo_18 ?_
      refine gf_6_24 (n17 _ (by omega)) dX6_isLinkedTo_19 ?_
      refine J_isub dX6_isLinkedTo_22 ?_
      refine J_abs lm_6_27 (by decide) (Nat.le_of_ble_eq_true rfl) (by decide) (by decide) dX6_isLinkedTo_23 ?_
      refine J_eq (st' := [.int (kabs ((I 17 s 0) - (I 17 t 0)))]) rfl rfl rfl ?_
      refine J_aload_n 0 rfl dX6_isLinkedTo_26 ?_
      refine gf_6_33 (n17 _ (by omega)) dX6_isLinkedTo_27 ?_
      refine J_aload_n 1 rfl dX6_isLinkedTo_30 ?_
      refine gf_6_33 (n17 _ (by omega)) dX6_isLinkedTo_31 ?_
      refine J_min lm_6_36 (by decide) (Nat.le_of_ble_eq_true rfl) (by decide) (by decide) dX6_isLinkedTo_34 ?_
      refine J_eq (st' := [.int (kmin (I 17 s 1) (I 17 t 1)), .int (kabs ((I 17 s 0) - (I 17 t 0)))]) rfl rfl rfl ?_
      refine J_icmp_gt 44 (by decide) dX6_isLinkedTo_37 (fun c3 => ?_) (fun c3 => ?_)
      · skip
        refine J_iconst (v := 0) (by decide) dX6_isLinkedTo_44 ?_
        exact J_ireturn rfl (by first | rfl | assumption | simp [kb_nar]) dX6_isLinkedTo_45 (⟨by (try simp only [kb_0, kb_1, kb_n0, kb_n1, decide_eq_false_iff_not, decide_eq_true_eq, ne_eq, Classical.not_not] at *); first | (simp [kb, kb_0, kb_1, vr_n, vr_s, linkB, *]; done) | (simp [kb, kb_0, kb_1, vr_n, vr_s, linkB, *] <;> grind), rfl⟩) (by omega) (by omega)
      · skip
        refine J_iconst (v := 1) (by decide) dX6_isLinkedTo_40 ?_
        refine J_goto 45 (by decide) dX6_isLinkedTo_41 ?_
        exact J_ireturn rfl (by first | rfl | assumption | simp [kb_nar]) dX6_isLinkedTo_45 (⟨by (try simp only [kb_0, kb_1, kb_n0, kb_n1, decide_eq_false_iff_not, decide_eq_true_eq, ne_eq, Classical.not_not] at *); first | (simp [kb, kb_0, kb_1, vr_n, vr_s, linkB, *]; done) | (simp [kb, kb_0, kb_1, vr_n, vr_s, linkB, *] <;> grind), rfl⟩) (by omega) (by omega)

set_option maxRecDepth 20000 in
theorem c_X0_isEasierToInterrupt {cy : Nat → ClassId} {S : Nat → Nat → Nat} {I : kI} {L : kL} {R : kRf} {LP : List Nat} {a b : Nat} (ha : a ∈ LP) (hb : b ∈ LP) : Con yX0_isEasierToInterrupt cX0_isEasierToInterrupt 2 (some .boolean) 0 0 0 cy [.ref a, .ref b] (wc cy S I L R LP) (kRet (some (.int (kb (easF I a b)))) (wc cy S I L R LP)) kF := by
  refine Con_of (by decide +kernel) (Nat.le_of_ble_eq_true rfl) ?_
  refine J_eq (lv' := [(0, .ref a), (1, .ref b)]) rfl rfl rfl ?_
  refine J_aload_n 0 rfl dX0_isEasierToInterrupt_0 ?_
  refine gf_0_36 (n20 (by assumption)) dX0_isEasierToInterrupt_1 ?_
  refine J_aload_n 1 rfl dX0_isEasierToInterrupt_4 ?_
  refine gf_0_36 (n20 (by assumption)) dX0_isEasierToInterrupt_5 ?_
  refine J_icmp_eq 30 (by decide) dX0_isEasierToInterrupt_8 (fun c1 => ?_) (fun c1 => ?_)
  · skip
    refine J_aload_n 0 rfl dX0_isEasierToInterrupt_30 ?_
    refine gf_0_40 (n20 (by assumption)) dX0_isEasierToInterrupt_31 ?_
    refine J_aload_n 1 rfl dX0_isEasierToInterrupt_34 ?_
    refine gf_0_40 (n20 (by assumption)) dX0_isEasierToInterrupt_35 ?_
    refine J_icmp_le 45 (by decide) dX0_isEasierToInterrupt_38 (fun c2 => ?_) (fun c2 => ?_)
    · skip
      refine J_iconst (v := 0) (by decide) dX0_isEasierToInterrupt_45 ?_
      exact J_ireturn rfl (by first | rfl | assumption | simp [kb_nar]) dX0_isEasierToInterrupt_46 (⟨by (try simp only [kb_0, kb_1, kb_n0, kb_n1, decide_eq_false_iff_not, decide_eq_true_eq, ne_eq, Classical.not_not] at *); first | (simp [kb, kb_0, kb_1, vr_n, vr_s, easF, *]; done) | (simp [kb, kb_0, kb_1, vr_n, vr_s, easF, *] <;> grind), rfl⟩) (by omega) (by omega)
    · skip
      refine J_iconst (v := 1) (by decide) dX0_isEasierToInterrupt_41 ?_
      refine J_goto 46 (by decide) dX0_isEasierToInterrupt_42 ?_
      exact J_ireturn rfl (by first | rfl | assumption | simp [kb_nar]) dX0_isEasierToInterrupt_46 (⟨by (try simp only [kb_0, kb_1, kb_n0, kb_n1, decide_eq_false_iff_not, decide_eq_true_eq, ne_eq, Classical.not_not] at *); first | (simp [kb, kb_0, kb_1, vr_n, vr_s, easF, *]; done) | (simp [kb, kb_0, kb_1, vr_n, vr_s, easF, *] <;> grind), rfl⟩) (by omega) (by omega)
  · skip
    refine J_aload_n 0 rfl dX0_isEasierToInterrupt_11 ?_
    refine gf_0_36 (n20 (by assumption)) dX0_isEasierToInterrupt_12 ?_
    refine J_aload_n 1 rfl dX0_isEasierToInterrupt_15 ?_
    refine gf_0_36 (n20 (by assumption)) dX0_isEasierToInterrupt_16 ?_
    refine J_icmp_ge 26 (by decide) dX0_isEasierToInterrupt_19 (fun c3 => ?_) (fun c3 => ?_)
    · skip
      refine J_iconst (v := 0) (by decide) dX0_isEasierToInterrupt_26 ?_
      refine J_goto 46 (by decide) dX0_isEasierToInterrupt_27 ?_
      exact J_ireturn rfl (by first | rfl | assumption | simp [kb_nar]) dX0_isEasierToInterrupt_46 (⟨by (try simp only [kb_0, kb_1, kb_n0, kb_n1, decide_eq_false_iff_not, decide_eq_true_eq, ne_eq, Classical.not_not] at *); first | (simp [kb, kb_0, kb_1, vr_n, vr_s, easF, *]; done) | (simp [kb, kb_0, kb_1, vr_n, vr_s, easF, *] <;> grind), rfl⟩) (by omega) (by omega)
    · skip
      refine J_iconst (v := 1) (by decide) dX0_isEasierToInterrupt_22 ?_
      refine J_goto 46 (by decide) dX0_isEasierToInterrupt_23 ?_
      exact J_ireturn rfl (by first | rfl | assumption | simp [kb_nar]) dX0_isEasierToInterrupt_46 (⟨by (try simp only [kb_0, kb_1, kb_n0, kb_n1, decide_eq_false_iff_not, decide_eq_true_eq, ne_eq, Classical.not_not] at *); first | (simp [kb, kb_0, kb_1, vr_n, vr_s, easF, *]; done) | (simp [kb, kb_0, kb_1, vr_n, vr_s, easF, *] <;> grind), rfl⟩) (by omega) (by omega)

