/-! Object's constructor; a new call's object -/
section OI
variable {own nm : String} {cc : ByteArray} {nL : Nat} {ret : Option FieldType} {d mc ms : Nat} {cy : Nat → ClassId} {Q : kQT} {QX : kXT} {pc : Nat} {lv : List (Nat × Value)} {rest : List Value} {w : va_W} {cells slots : Nat}
theorem J_objInit {index : Nat} {b : Nat} (hlink : Cond.methodLink own index Lib.objectInit ∈ kT) (hd1 : 1 ≤ d) (hst : (rest.map fun v => v.category).sum ≤ 8) (hd : decode cc pc = .ok (.invokespecial index, 3))
    (kk : J own nm cc nL ret d mc ms cy Q QX (pc + 3) lv rest w cells slots) : J own nm cc nL ret d mc ms cy Q QX pc lv (.ref b :: rest) w cells slots := by
  intro p l e s m args below meth c D A C0 H locs ls hP hD hS hll
  exact W.objInit C0.1 C0.2.1 C0.2.2.2.2.2.2.2.1 (C0.hts _ hlink) (C0.hts _ (kT_of (i := 78) (by decide +kernel) rfl)) (C0.hts _ (kT_of (i := 79) (by decide +kernel) rfl)) rfl (by rw [C0.2.2.1]; exact hll.1) rfl hd hd1 (by show 2 * 0 + _ + 12 ≤ 40 * d + 100; omega) (kk p l e s m args below meth c D A C0 H locs ls hP hD hS hll)
end OI
theorem lo_5_3 : Cond.methodLink RX5 3 Lib.objectInit ∈ kT := kT_of (i := 723) (by decide +kernel) rfl
theorem lc_7_37 : Cond.classLink RX7 37 RX5 ∈ kT := kT_of (i := 215) (by decide +kernel) rfl
theorem li_5 : Cond.instantiable RX5 13 ∈ kT := kT_of (i := 719) (by decide +kernel) rfl
theorem ll_7_312 : Cond.methodLink RX7 312 yX5_init ∈ kT := kT_of (i := 720) (by decide +kernel) rfl
/-- the row of a new call -/
def kz (I : kI) (q : Nat) : kI := fun k i f => if k = 20 ∧ i = q then 0 else I k i f
theorem kz_o (I : kI) {q k i : Nat} (h : ¬ (k = 20 ∧ i = q)) (f : Nat) : kz I q k i f = I k i f := if_neg h
theorem kz_q (I : kI) (q f : Nat) : kz I q 20 q f = 0 := if_pos ⟨rfl, rfl⟩
theorem NLc_app (LP : List Nat) (q : Nat) : NLc (LP ++ [q]) = NLc LP ++ [(20, q)] := by
  unfold NLc
  rw [List.map_append]
  simp only [List.append_assoc]
  rfl
theorem wc_new {cy : Nat → ClassId} {S : Nat → Nat → Nat} {I : kI} {L : kL} {R : kRf} {LP : List Nat} {q : Nat} (hq : ∀ (k : Nat) (e : Nat × va_E), (wc cy S I L R LP)[k]? = some e → e.1 ≠ q) : wc cy S I L R LP ++ [(q, .inr (7, [.int 0, .int 0, .int 0, .int 0, .int 0, .int 0, .int 0, .int 0, .int 0, .int 0, .int 0, .int 0, .int 0]))] = wc cy S (kz I q) L R (LP ++ [q]) ∧ q ∉ LP := by
  have hn : q ∉ LP := by
    intro h
    obtain ⟨q0, h1, -⟩ := kw_get (S := S) (sh := shA cy S) (I := I) (L := L) (R := R) (n20 h)
    exact hq q0 _ h1 (ka_20 S q)
  refine ⟨?_, hn⟩
  unfold wc
  rw [NLc_app, kw_app]
  congr 1
  · refine kw_congr fun n hn2 => ?_
    have : ¬ (n.1 = 20 ∧ n.2 = q) := by
      intro z
      have e : n = (20, q) := Prod.ext z.1 z.2
      rw [e] at hn2
      obtain ⟨q0, h1, -⟩ := kw_get (S := S) (sh := shA cy S) (I := I) (L := L) (R := R) hn2
      exact hq q0 _ h1 (ka_20 S q)
    rw [show kz I q n.1 n.2 = I n.1 n.2 from funext fun f => kz_o I this f]
  · show _ = [(ka S 20 q, shA cy S 20 q (kz I q 20 q) (L 20 q) (R 20 q))]
    rw [ka_20]
    simp only [shA, kz_q]
