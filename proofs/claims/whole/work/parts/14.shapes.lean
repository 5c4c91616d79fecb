/-! SHAPES: kinds 0..20 the class's (0 the exchange, 1 coast, 2 line, 3 channels, 4 log, 5 placed[], 6 row[], 7 stepsToEnd, 8 reached, 9 way, 10 joined, 11 its rows, 12 ordered, 13 queue, 14 speakers, 15 spoken, 16 ring, 17 stations, 18 entries, 20 calls, by their addresses), 30 the reference, 40 + f its array of field f, 80 and 81 the law's two arrays -/
def shA (cy : Nat → ClassId) (S : Nat → Nat → Nat) : kSh := fun k i F G r => match k with
  | 0 => .inr (9, [.ref (ka S 1 0), .ref (ka S 2 0), .ref (ka S 3 0), .ref (ka S 4 0), .ref (ka S 5 0), .int (F 5), .int (F 6), .int (F 7), .long (G 8), .long (G 9), .int (F 10)])
  | 1 => .inr (3, [.ref (ka S 6 0), .ref (ka S 7 0), .ref (ka S 8 0), .ref (ka S 9 0), .ref (ka S 10 0), .int (F 5)])
  | 2 => .inr (5, [.ref (ka S 12 0), .ref (ka S 13 0), .int (F 2)])
  | 3 => .inr (2, [.ref (ka S 14 0), .ref (ka S 15 0)])
  | 4 => .inr (6, [.ref (ka S 16 0), .int (F 1), .int (F 2), .int (F 3)])
  | 5 => .inl (cy 5, 150, .inr (.inr (.inr (.inr (r)))))
  | 6 => .inl (cy 6, 10, .inr (.inr (.inr (.inr (fun j => some (ka S 17 j))))))
  | 7 => .inl (cy 0, 10, .inl F)
  | 8 => .inl (cy 0, 10, .inl F)
  | 9 => .inl (cy 0, 10, .inl F)
  | 10 => .inl (cy 8, 10, .inr (.inr (.inr (.inr (fun j => some (ka S 11 j))))))
  | 11 => .inl (cy 0, 10, .inl F)
  | 12 => .inl (cy 5, 24, .inr (.inr (.inr (.inr (r)))))
  | 13 => .inl (cy 5, 24, .inr (.inr (.inr (.inr (r)))))
  | 14 => .inl (cy 5, 3, .inr (.inr (.inr (.inr (r)))))
  | 15 => .inl (cy 0, 3, .inl F)
  | 16 => .inl (cy 7, 60, .inr (.inr (.inr (.inr (fun j => some (ka S 18 j))))))
  | 17 => .inr (8, [.int (F 0), .int (F 1), .int (F 2), .int (F 3), .int (F 4), .int (F 5)])
  | 18 => .inr (4, [.int (F 0), .int (F 1), .int (F 2)])
  | 20 => .inr (7, [.int (F 0), .int (F 1), .int (F 2), .int (F 3), .int (F 4), .int (F 5), .int (F 6), .int (F 7), .int (F 8), .int (F 9), .int (F 10), .int (F 11), .int (F 12)])
  | 30 => .inr (10, [.int (F 0), .ref (ka S 41 0), .ref (ka S 42 0), .ref (ka S 43 0), .ref (ka S 44 0), .ref (ka S 45 0), .ref (ka S 46 0), .ref (ka S 47 0), .ref (ka S 48 0), .int (F 9), .int (F 10), .ref (ka S 51 0), .ref (ka S 52 0), .ref (ka S 53 0), .ref (ka S 54 0), .ref (ka S 55 0), .ref (ka S 56 0), .ref (ka S 57 0), .ref (ka S 58 0), .ref (ka S 59 0), .ref (ka S 60 0), .int (F 21), .int (F 22), .int (F 23), .ref (ka S 64 0), .long (G 25), .int (F 26), .int (F 27), .ref (ka S 68 0), .ref (ka S 69 0), .ref (ka S 70 0), .int (F 31)])
  | 41 => .inl (cy 0, 10, .inl F)
  | 42 => .inl (cy 0, 10, .inl F)
  | 43 => .inl (cy 2, 10, .inl F)
  | 44 => .inl (cy 0, 10, .inl F)
  | 45 => .inl (cy 0, 10, .inl F)
  | 46 => .inl (cy 0, 10, .inl F)
  | 47 => .inl (cy 0, 10, .inl F)
  | 48 => .inl (cy 0, 10, .inl F)
  | 51 => .inl (cy 0, 150, .inl F)
  | 52 => .inl (cy 0, 150, .inl F)
  | 53 => .inl (cy 1, 150, .inl F)
  | 54 => .inl (cy 0, 150, .inl F)
  | 55 => .inl (cy 1, 150, .inl F)
  | 56 => .inl (cy 0, 150, .inl F)
  | 57 => .inl (cy 0, 150, .inl F)
  | 58 => .inl (cy 0, 150, .inl F)
  | 59 => .inl (cy 0, 150, .inl F)
  | 60 => .inl (cy 0, 150, .inl F)
  | 64 => .inl (cy 0, 3, .inl F)
  | 68 => .inl (cy 0, 60, .inl F)
  | 69 => .inl (cy 1, 60, .inl F)
  | 70 => .inl (cy 0, 60, .inl F)
  | 80 => .inl (cy 3, 1, .inr (.inl G))
  | 81 => .inl (cy 4, 1, .inr (.inr (.inr (.inl (fun j => (G j).toUInt64)))))
  | _ => .inr (0, [])
def NLc (LP : List Nat) : List (Nat × Nat) := [(0, 0), (1, 0), (2, 0), (3, 0), (4, 0), (5, 0), (6, 0), (7, 0), (8, 0), (9, 0), (10, 0), (12, 0), (13, 0), (14, 0), (15, 0), (16, 0)] ++ ((List.range 10).map (fun i => (11, i)) ++ ((List.range 10).map (fun i => (17, i)) ++ ((List.range 60).map (fun i => (18, i)) ++ LP.map (fun a => (20, a)))))
def NLm : List (Nat × Nat) := [(30, 0), (41, 0), (42, 0), (43, 0), (44, 0), (45, 0), (46, 0), (47, 0), (48, 0), (51, 0), (52, 0), (53, 0), (54, 0), (55, 0), (56, 0), (57, 0), (58, 0), (59, 0), (60, 0), (64, 0), (68, 0), (69, 0), (70, 0)]
def NLl : List (Nat × Nat) := [(80, 0), (81, 0)]
theorem n0 (LP : List Nat) : (0, 0) ∈ NLc LP := List.mem_append_left _ (List.mem_of_getElem? (i := 0) rfl)
theorem n1 (LP : List Nat) : (1, 0) ∈ NLc LP := List.mem_append_left _ (List.mem_of_getElem? (i := 1) rfl)
theorem n2 (LP : List Nat) : (2, 0) ∈ NLc LP := List.mem_append_left _ (List.mem_of_getElem? (i := 2) rfl)
theorem n3 (LP : List Nat) : (3, 0) ∈ NLc LP := List.mem_append_left _ (List.mem_of_getElem? (i := 3) rfl)
theorem n4 (LP : List Nat) : (4, 0) ∈ NLc LP := List.mem_append_left _ (List.mem_of_getElem? (i := 4) rfl)
theorem n5 (LP : List Nat) : (5, 0) ∈ NLc LP := List.mem_append_left _ (List.mem_of_getElem? (i := 5) rfl)
theorem n6 (LP : List Nat) : (6, 0) ∈ NLc LP := List.mem_append_left _ (List.mem_of_getElem? (i := 6) rfl)
theorem n7 (LP : List Nat) : (7, 0) ∈ NLc LP := List.mem_append_left _ (List.mem_of_getElem? (i := 7) rfl)
theorem n8 (LP : List Nat) : (8, 0) ∈ NLc LP := List.mem_append_left _ (List.mem_of_getElem? (i := 8) rfl)
theorem n9 (LP : List Nat) : (9, 0) ∈ NLc LP := List.mem_append_left _ (List.mem_of_getElem? (i := 9) rfl)
theorem n10 (LP : List Nat) : (10, 0) ∈ NLc LP := List.mem_append_left _ (List.mem_of_getElem? (i := 10) rfl)
theorem n12 (LP : List Nat) : (12, 0) ∈ NLc LP := List.mem_append_left _ (List.mem_of_getElem? (i := 11) rfl)
theorem n13 (LP : List Nat) : (13, 0) ∈ NLc LP := List.mem_append_left _ (List.mem_of_getElem? (i := 12) rfl)
theorem n14 (LP : List Nat) : (14, 0) ∈ NLc LP := List.mem_append_left _ (List.mem_of_getElem? (i := 13) rfl)
theorem n15 (LP : List Nat) : (15, 0) ∈ NLc LP := List.mem_append_left _ (List.mem_of_getElem? (i := 14) rfl)
theorem n16 (LP : List Nat) : (16, 0) ∈ NLc LP := List.mem_append_left _ (List.mem_of_getElem? (i := 15) rfl)
theorem n11 (LP : List Nat) {i : Nat} (h : i < 10) : (11, i) ∈ NLc LP := List.mem_append_right _ (List.mem_append_left _ (List.mem_map.mpr ⟨i, List.mem_range.mpr h, rfl⟩))
theorem n17 (LP : List Nat) {i : Nat} (h : i < 10) : (17, i) ∈ NLc LP := List.mem_append_right _ (List.mem_append_right _ (List.mem_append_left _ (List.mem_map.mpr ⟨i, List.mem_range.mpr h, rfl⟩)))
theorem n18 (LP : List Nat) {i : Nat} (h : i < 60) : (18, i) ∈ NLc LP := List.mem_append_right _ (List.mem_append_right _ (List.mem_append_right _ (List.mem_append_left _ (List.mem_map.mpr ⟨i, List.mem_range.mpr h, rfl⟩))))
theorem n20 {LP : List Nat} {a : Nat} (h : a ∈ LP) : (20, a) ∈ NLc LP := List.mem_append_right _ (List.mem_append_right _ (List.mem_append_right _ (List.mem_append_right _ (List.mem_map.mpr ⟨a, h, rfl⟩))))
theorem n30 : (30, 0) ∈ NLm := List.mem_of_getElem? (i := 0) rfl
theorem n41 : (41, 0) ∈ NLm := List.mem_of_getElem? (i := 1) rfl
theorem n42 : (42, 0) ∈ NLm := List.mem_of_getElem? (i := 2) rfl
theorem n43 : (43, 0) ∈ NLm := List.mem_of_getElem? (i := 3) rfl
theorem n44 : (44, 0) ∈ NLm := List.mem_of_getElem? (i := 4) rfl
theorem n45 : (45, 0) ∈ NLm := List.mem_of_getElem? (i := 5) rfl
theorem n46 : (46, 0) ∈ NLm := List.mem_of_getElem? (i := 6) rfl
theorem n47 : (47, 0) ∈ NLm := List.mem_of_getElem? (i := 7) rfl
theorem n48 : (48, 0) ∈ NLm := List.mem_of_getElem? (i := 8) rfl
theorem n51 : (51, 0) ∈ NLm := List.mem_of_getElem? (i := 9) rfl
theorem n52 : (52, 0) ∈ NLm := List.mem_of_getElem? (i := 10) rfl
theorem n53 : (53, 0) ∈ NLm := List.mem_of_getElem? (i := 11) rfl
theorem n54 : (54, 0) ∈ NLm := List.mem_of_getElem? (i := 12) rfl
theorem n55 : (55, 0) ∈ NLm := List.mem_of_getElem? (i := 13) rfl
theorem n56 : (56, 0) ∈ NLm := List.mem_of_getElem? (i := 14) rfl
theorem n57 : (57, 0) ∈ NLm := List.mem_of_getElem? (i := 15) rfl
theorem n58 : (58, 0) ∈ NLm := List.mem_of_getElem? (i := 16) rfl
theorem n59 : (59, 0) ∈ NLm := List.mem_of_getElem? (i := 17) rfl
theorem n60 : (60, 0) ∈ NLm := List.mem_of_getElem? (i := 18) rfl
theorem n64 : (64, 0) ∈ NLm := List.mem_of_getElem? (i := 19) rfl
theorem n68 : (68, 0) ∈ NLm := List.mem_of_getElem? (i := 20) rfl
theorem n69 : (69, 0) ∈ NLm := List.mem_of_getElem? (i := 21) rfl
theorem n70 : (70, 0) ∈ NLm := List.mem_of_getElem? (i := 22) rfl
theorem ka_20 (S : Nat → Nat → Nat) (a : Nat) : ka S 20 a = a := if_pos rfl
abbrev wc (cy : Nat → ClassId) (S : Nat → Nat → Nat) (I : kI) (L : kL) (R : kRf) (LP : List Nat) : va_W := kw S (shA cy S) I L R (NLc LP)
abbrev wm (cy : Nat → ClassId) (S : Nat → Nat → Nat) (I : kI) (L : kL) (R : kRf) : va_W := kw S (shA cy S) I L R NLm
