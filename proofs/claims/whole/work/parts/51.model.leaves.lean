/-! THE MODEL: its memory holds the common value, its scratch aside; cd is what thrown() tells -/
def okM (k j : Nat) : Bool := !(k == 47) && (!(k == 48) && !((k == 30) && ((j == 9) || (j == 31))))
def MR (m : Mu) (cd : Int32) (I : kI) (L : kL) : Prop := (∀ k j, okM k j = true → I k 0 j = m.1 k j) ∧ I 30 0 31 = cd ∧ L 30 0 25 = m.2
def MX (cy : Nat → ClassId) (S : Nat → Nat → Nat) (R : kRf) (m : Mu) (cd : Int32) (w : va_W) : Prop := ∃ (I : kI) (L : kL), w = wm cy S I L R ∧ MR m cd I L
def mN (m : Mu) : Prop := m.1 30 0 = nI (mS m) ∧ m.1 30 10 = nI (mC m)
section MR
variable {m : Mu} {cd v : Int32} {I : kI} {L : kL} {k j : Nat}
theorem MR_ms (h : MR m cd I L) (hk : okM k j = true) : MR (ms m k j v) cd (ku I k 0 j v) L := by
  refine ⟨fun k' j' hh => ?_, ?_, h.2.2⟩
  · have h1 := h.1 k' j' hh
    by_cases e : k' = k
    · subst e
      by_cases f : j' = j
      · subst f; rw [ku_eq, ms_eq]
      · rw [ku_f I v k' 0 f, ms_j m v k' f]; exact h1
    · rw [ku_k I v 0 j' e, ms_k m v j' e]; exact h1
  · by_cases e : 30 = k
    · subst e
      have f : 31 ≠ j := by intro z; subst z; exact absurd hk (by decide)
      rw [ku_f I v 30 0 f]; exact h.2.1
    · rw [ku_k I v 0 31 e]; exact h.2.1
theorem MR_sc (h : MR m cd I L) (hk : okM k j = false) (hj : (k, j) ≠ (30, 31)) : MR m cd (ku I k 0 j v) L := by
  refine ⟨fun k' j' hh => ?_, ?_, h.2.2⟩
  · have h1 := h.1 k' j' hh
    by_cases e : k' = k
    · subst e
      have f : j' ≠ j := by intro z; subst z; rw [hk] at hh; exact absurd hh (by decide)
      rw [ku_f I v k' 0 f]; exact h1
    · rw [ku_k I v 0 j' e]; exact h1
  · by_cases e : 30 = k
    · subst e
      have f : 31 ≠ j := by intro z; subst z; exact hj rfl
      rw [ku_f I v 30 0 f]; exact h.2.1
    · rw [ku_k I v 0 31 e]; exact h.2.1
theorem MR_cd (h : MR m cd I L) : MR m v (ku I 30 0 31 v) L := by
  refine ⟨fun k' j' hh => ?_, ku_eq _ _ _ _ _, h.2.2⟩
  have h1 := h.1 k' j' hh
  by_cases e : k' = 30
  · subst e
    have f : j' ≠ 31 := by intro z; subst z; exact absurd hh (by decide)
    rw [ku_f I v 30 0 f]; exact h1
  · rw [ku_k I v 0 j' e]; exact h1
theorem MR_l {v : Int64} (h : MR m cd I L) : MR (m.1, v) cd I (ku L 30 0 25 v) := ⟨h.1, h.2.1, ku_eq _ _ _ _ _⟩
theorem find_fst {p : Nat → Bool} {n c : Nat} (hc : c < n) (hp : p c = true) (h : ∀ d, d < c → p d = false) : (List.range n).find? p = some c := by
  cases hf : (List.range n).find? p with
  | none => have := List.find?_eq_none.mp hf c (List.mem_range.mpr hc); rw [hp] at this; exact absurd rfl this
  | some e =>
    obtain ⟨h1, as, bs, h2, h3⟩ := List.find?_eq_some_iff_append.mp hf
    have he : e < n := List.mem_range.mp (List.mem_of_find?_eq_some hf)
    have hlen : as.length = e := by
      have e1 : (List.range n)[as.length]? = some e := by rw [h2]; simp
      have hl : as.length < n := by
        have := (List.getElem?_eq_some_iff.mp e1).1
        simpa using this
      rw [List.getElem?_range hl] at e1
      exact Option.some.inj e1
    have hn : ∀ d, d < e → p d = false := by
      intro d hd
      have e1 : as[d]? = some d := by
        have e2 : (List.range n)[d]? = some d := List.getElem?_range (by omega)
        rw [h2, List.getElem?_append_left (by omega)] at e2
        exact e2
      have := h3 d (List.mem_of_getElem? e1)
      simpa using this
    have hec : ¬ e < c := fun z => by have := h e z; rw [h1] at this; cases this
    have hce : ¬ c < e := fun z => by have := hn c z; rw [hp] at this; cases this
    have : e = c := by omega
    rw [this]
theorem find_no {p : Nat → Bool} {n : Nat} (h : ∀ d, d < n → p d = false) : (List.range n).find? p = none := List.find?_eq_none.mpr (fun d hd => by rw [h d (List.mem_range.mp hd)]; decide)
theorem cp_s (p : Nat → Bool) (n : Nat) : (List.range (n + 1)).countP p = (List.range n).countP p + (if p n = true then 1 else 0) := by
  rw [List.range_succ, List.countP_append, List.countP_singleton]
theorem nI_m60 {g : Nat} (h : g < 2 ^ 31) : nI g - nI g / 60 * 60 = nI (g % 60) := by
  have e1 := nI_toInt (n := g) h
  have e60 : (60 : Int32).toInt = 60 := by decide
  have a1 : (nI g / 60).toInt = (g : Int) / 60 := by
    rw [Int32.toInt_div, e1, e60, Int.tdiv_eq_ediv_of_nonneg (by omega)]
    exact Int.bmod_eq_of_le (by omega) (by omega)
  have a2 : (nI g / 60 * 60).toInt = (g : Int) / 60 * 60 := by
    rw [Int32.toInt_mul, a1, e60]; exact Int.bmod_eq_of_le (by omega) (by omega)
  refine Int32.toInt_inj.mp ?_
  rw [Int32.toInt_sub, e1, a2, nI_toInt (n := g % 60) (by omega)]
  rw [Int.bmod_eq_of_le (by omega) (by omega)]
  omega
theorem vp60 {x : Int32} (h : 0 ≤ x) : vp_in (x - x / 60 * 60) 60 := by
  obtain ⟨g, hg, rfl⟩ := nI_of (x := x) (by grind)
  rw [nI_m60 hg]
  exact vp_in_nI (Nat.mod_lt _ (by decide)) (by decide)
end MR

set_option maxRecDepth 20000 in
set_option maxHeartbeats 1000000 in
theorem c_X8_thrown {cy : Nat → ClassId} {S : Nat → Nat → Nat} {I : kI} {L : kL} {R : kRf} {m : Mu} {cd : Int32}  (hM : MR m cd I L) : Con yX8_thrown cX8_thrown 1 (some .int) 0 0 0 cy [.ref (ka S 30 0)] (wm cy S I L R) (fun r w' => r = some (.int cd) ∧ MX cy S R m cd w') kF := by
  refine Con_of (by decide +kernel) (Nat.le_of_ble_eq_true rfl) ?_
  refine J_eq (lv' := [(0, .ref (ka S 30 0))]) rfl rfl rfl ?_
  refine J_aload_n 0 rfl dX8_thrown_0 ?_
  refine gf_8_78 n30 dX8_thrown_1 ?_
  refine J_topeq cd (by exact hM.2.1) ?_
  exact J_ireturn rfl (by first | rfl | assumption | simp [kb_nar]) dX8_thrown_4 (⟨rfl, _, _, rfl, hM⟩) (by omega) (by omega)

set_option maxRecDepth 20000 in
set_option maxHeartbeats 1000000 in
theorem c_X8_fails {cy : Nat → ClassId} {S : Nat → Nat → Nat} {I : kI} {L : kL} {R : kRf} {m : Mu} {cd : Int32} {x : Int32} (hM : MR m cd I L) : Con yX8_fails cX8_fails 2 (some .boolean) 0 0 0 cy [.ref (ka S 30 0), .int x] (wm cy S I L R) (fun r w' => r = some (.int (kb (decide (0 < x)))) ∧ MX cy S R m x w') kF := by
  refine Con_of (by decide +kernel) (Nat.le_of_ble_eq_true rfl) ?_
  refine J_eq (lv' := [(0, .ref (ka S 30 0)), (1, .int x)]) rfl rfl rfl ?_
  refine J_aload_n 0 rfl dX8_fails_0 ?_
  refine J_iload_n 1 rfl dX8_fails_1 ?_
  refine pf_8_78 n30 dX8_fails_2 ?_
  have hM1 := MR_cd hM (v := x)
  refine J_iload_n 1 rfl dX8_fails_5 ?_
  refine J_if_le 13 (by decide) dX8_fails_6 (fun c2 => ?_) (fun c2 => ?_)
  · skip
    refine J_iconst (v := 0) (by decide) dX8_fails_13 ?_
    exact J_ireturn rfl (by first | rfl | assumption | simp [kb_nar]) dX8_fails_14 (⟨by first | (rw [decide_eq_true (by grind)]; rfl) | (rw [decide_eq_false (by grind)]; rfl), _, _, rfl, hM1⟩) (by omega) (by omega)
  · skip
    refine J_iconst (v := 1) (by decide) dX8_fails_9 ?_
    refine J_goto 14 (by decide) dX8_fails_10 ?_
    exact J_ireturn rfl (by first | rfl | assumption | simp [kb_nar]) dX8_fails_14 (⟨by first | (rw [decide_eq_true (by grind)]; rfl) | (rw [decide_eq_false (by grind)]; rfl), _, _, rfl, hM1⟩) (by omega) (by omega)

set_option maxRecDepth 20000 in
set_option maxHeartbeats 1000000 in
theorem c_X8_tells {cy : Nat → ClassId} {S : Nat → Nat → Nat} {I : kI} {L : kL} {R : kRf} {m : Mu} {cd : Int32} {x : Int32} (hM : MR m cd I L) : Con yX8_tells cX8_tells 2 (some .int) 0 0 0 cy [.ref (ka S 30 0), .int x] (wm cy S I L R) (fun r w' => r = some (.int x) ∧ MX cy S R m 0 w') kF := by
  refine Con_of (by decide +kernel) (Nat.le_of_ble_eq_true rfl) ?_
  refine J_eq (lv' := [(0, .ref (ka S 30 0)), (1, .int x)]) rfl rfl rfl ?_
  refine J_aload_n 0 rfl dX8_tells_0 ?_
  refine J_iconst (v := 0) (by decide) dX8_tells_1 ?_
  refine pf_8_78 n30 dX8_tells_2 ?_
  have hM1 := MR_cd hM (v := 0)
  refine J_iload_n 1 rfl dX8_tells_5 ?_
  exact J_ireturn rfl (by first | rfl | assumption | simp [kb_nar]) dX8_tells_6 (⟨rfl, _, _, rfl, hM1⟩) (by omega) (by omega)

set_option maxRecDepth 20000 in
set_option maxHeartbeats 1000000 in
theorem c_X8_in {cy : Nat → ClassId} {S : Nat → Nat → Nat} {I : kI} {L : kL} {R : kRf} {x a b : Int32} : Con yX8_in cX8_in 3 (some .boolean) 0 0 0 cy [.int x, .int a, .int b] (wm cy S I L R) (kRet (some (.int (kb (decide (a ≤ x) && decide (x ≤ b))))) (wm cy S I L R)) kF := by
  refine Con_of (by decide +kernel) (Nat.le_of_ble_eq_true rfl) ?_
  refine J_eq (lv' := [(0, .int x), (1, .int a), (2, .int b)]) rfl rfl rfl ?_
  refine J_iload_n 0 rfl dX8_in_0 ?_
  refine J_iload_n 1 rfl dX8_in_1 ?_
  refine J_icmp_lt 14 (by decide) dX8_in_2 (fun c1 => ?_) (fun c1 => ?_)
  · skip
    refine J_iconst (v := 0) (by decide) dX8_in_14 ?_
    exact J_ireturn rfl (by first | rfl | assumption | simp [kb_nar]) dX8_in_15 (⟨by first | (rw [decide_eq_true (by grind), decide_eq_true (by grind)]; rfl) | (rw [decide_eq_false (p := a ≤ x) (by grind)]; rfl) | (rw [decide_eq_false (p := x ≤ b) (by grind), Bool.and_false]; rfl), rfl⟩) (by omega) (by omega)
  · skip
    refine J_iload_n 0 rfl dX8_in_5 ?_
    refine J_iload_n 2 rfl dX8_in_6 ?_
    refine J_icmp_gt 14 (by decide) dX8_in_7 (fun c2 => ?_) (fun c2 => ?_)
    · skip
      refine J_iconst (v := 0) (by decide) dX8_in_14 ?_
      exact J_ireturn rfl (by first | rfl | assumption | simp [kb_nar]) dX8_in_15 (⟨by first | (rw [decide_eq_true (by grind), decide_eq_true (by grind)]; rfl) | (rw [decide_eq_false (p := a ≤ x) (by grind)]; rfl) | (rw [decide_eq_false (p := x ≤ b) (by grind), Bool.and_false]; rfl), rfl⟩) (by omega) (by omega)
    · skip
      refine J_iconst (v := 1) (by decide) dX8_in_10 ?_
      refine J_goto 15 (by decide) dX8_in_11 ?_
      exact J_ireturn rfl (by first | rfl | assumption | simp [kb_nar]) dX8_in_15 (⟨by first | (rw [decide_eq_true (by grind), decide_eq_true (by grind)]; rfl) | (rw [decide_eq_false (p := a ≤ x) (by grind)]; rfl) | (rw [decide_eq_false (p := x ≤ b) (by grind), Bool.and_false]; rfl), rfl⟩) (by omega) (by omega)

set_option maxRecDepth 20000 in
set_option maxHeartbeats 1000000 in
theorem c_X8_rank {cy : Nat → ClassId} {S : Nat → Nat → Nat} {I : kI} {L : kL} {R : kRf} {u : Int32} : Con yX8_rank cX8_rank 1 (some .int) 0 0 0 cy [.int u] (wm cy S I L R) (kRet (some (.int (wghtF u))) (wm cy S I L R)) kF := by
  refine Con_of (by decide +kernel) (Nat.le_of_ble_eq_true rfl) ?_
  refine J_eq (lv' := [(0, .int u)]) rfl rfl rfl ?_
  refine J_iload_n 0 rfl dX8_rank_0 ?_
  refine J_bipush (v := 100) (by decide) dX8_rank_1 ?_
  refine J_icmp_ne 10 (by decide) dX8_rank_3 (fun c1 => ?_) (fun c1 => ?_)
  · skip
    refine J_iload_n 0 rfl dX8_rank_10 ?_
    refine J_bipush (v := 117) (by decide) dX8_rank_11 ?_
    refine J_icmp_ne 20 (by decide) dX8_rank_13 (fun c2 => ?_) (fun c2 => ?_)
    · skip
      refine J_iload_n 0 rfl dX8_rank_20 ?_
      refine J_bipush (v := 115) (by decide) dX8_rank_21 ?_
      refine J_icmp_ne 30 (by decide) dX8_rank_23 (fun c3 => ?_) (fun c3 => ?_)
      · skip
        refine J_iload_n 0 rfl dX8_rank_30 ?_
        refine J_bipush (v := 114) (by decide) dX8_rank_31 ?_
        refine J_icmp_ne 40 (by decide) dX8_rank_33 (fun c4 => ?_) (fun c4 => ?_)
        · skip
          refine J_iconst (v := (-1)) (by decide) dX8_rank_40 ?_
          exact J_ireturn rfl (by first | rfl | assumption | simp [kb_nar]) dX8_rank_41 (⟨by unfold wghtF; simp [*], rfl⟩) (by omega) (by omega)
        · skip
          refine J_iconst (v := 0) (by decide) dX8_rank_36 ?_
          refine J_goto 41 (by decide) dX8_rank_37 ?_
          exact J_ireturn rfl (by first | rfl | assumption | simp [kb_nar]) dX8_rank_41 (⟨by unfold wghtF; simp [*], rfl⟩) (by omega) (by omega)
      · skip
        refine J_iconst (v := 1) (by decide) dX8_rank_26 ?_
        refine J_goto 41 (by decide) dX8_rank_27 ?_
        exact J_ireturn rfl (by first | rfl | assumption | simp [kb_nar]) dX8_rank_41 (⟨by unfold wghtF; simp [*], rfl⟩) (by omega) (by omega)
    · skip
      refine J_iconst (v := 2) (by decide) dX8_rank_16 ?_
      refine J_goto 41 (by decide) dX8_rank_17 ?_
      exact J_ireturn rfl (by first | rfl | assumption | simp [kb_nar]) dX8_rank_41 (⟨by unfold wghtF; simp [*], rfl⟩) (by omega) (by omega)
  · skip
    refine J_iconst (v := 3) (by decide) dX8_rank_6 ?_
    refine J_goto 41 (by decide) dX8_rank_7 ?_
    exact J_ireturn rfl (by first | rfl | assumption | simp [kb_nar]) dX8_rank_41 (⟨by unfold wghtF; simp [*], rfl⟩) (by omega) (by omega)

set_option maxRecDepth 20000 in
set_option maxHeartbeats 1000000 in
theorem c_X8_logs {cy : Nat → ClassId} {S : Nat → Nat → Nat} {I : kI} {L : kL} {R : kRf} {m : Mu} {cd : Int32} {k n : Int32} (hM : MR m cd I L) (hg : 0 ≤ m.1 30 27) (hk : vp_nar .char k = k) : Con yX8_logs cX8_logs 4 none 0 0 0 cy [.ref (ka S 30 0), .int k, .int n] (wm cy S I L R) (fun r w' => r = none ∧ MX cy S R (mLog m k n) cd w') kF := by
  have hv60 := vp60 hg
  refine Con_of (by decide +kernel) (Nat.le_of_ble_eq_true rfl) ?_
  refine J_eq (lv' := [(0, .ref (ka S 30 0)), (1, .int k), (2, .int n)]) rfl rfl rfl ?_
  refine J_aload_n 0 rfl dX8_logs_0 ?_
  refine gf_8_82 n30 dX8_logs_1 ?_
  refine J_topeq (m.1 30 27) (hM.1 30 27 rfl) ?_
  refine J_bipush (v := 60) (by decide) dX8_logs_4 ?_
  refine J_irem (by decide) dX8_logs_6 ?_
  refine J_istore_n (lv' := [(0, .ref (ka S 30 0)), (1, .int k), (2, .int n), (3, .int ((m.1 30 27) - (m.1 30 27) / 60 * 60))]) (by decide) rfl dX8_logs_7 ?_
  refine J_aload_n 0 rfl dX8_logs_8 ?_
  refine gf_8_69 n30 dX8_logs_9 ?_
  refine J_iload_n 3 rfl dX8_logs_12 ?_
  refine J_aload_n 0 rfl dX8_logs_13 ?_
  refine gf_8_85 n30 dX8_logs_14 ?_
  refine J_topeq (m.1 30 26) (hM.1 30 26 rfl) ?_
  refine J_iast (I' := ku I 68 0 (((m.1 30 27) - (m.1 30 27) / 60 * 60).toNatClampNeg) (m.1 30 26)) (L' := L) (R' := R) (((m.1 30 27) - (m.1 30 27) / 60 * 60).toNatClampNeg) 0 n68 rfl rfl (by assumption) rfl (by rw [ku_own]; rfl) (fun k' i' h => ⟨ku_row _ _ h, rfl, rfl⟩) dX8_logs_17 ?_
  have hM1 := MR_ms (k := 68) (j := ((m.1 30 27) - (m.1 30 27) / 60 * 60).toNatClampNeg) (v := (m.1 30 26)) hM rfl
  refine J_aload_n 0 rfl dX8_logs_18 ?_
  refine gf_8_72 n30 dX8_logs_19 ?_
  refine J_iload_n 3 rfl dX8_logs_22 ?_
  refine J_iload_n 1 rfl dX8_logs_23 ?_
  refine J_cast (I' := ku (ku I 68 0 (((m.1 30 27) - (m.1 30 27) / 60 * 60).toNatClampNeg) (m.1 30 26)) 69 0 (((m.1 30 27) - (m.1 30 27) / 60 * 60).toNatClampNeg) k) (L' := L) (R' := R) (((m.1 30 27) - (m.1 30 27) / 60 * 60).toNatClampNeg) 1 n69 rfl rfl (by assumption) rfl (by rw [hk]; rw [ku_own]; rfl) (fun k' i' h => ⟨ku_row _ _ h, rfl, rfl⟩) dX8_logs_24 ?_
  have hM2 := MR_ms (k := 69) (j := ((m.1 30 27) - (m.1 30 27) / 60 * 60).toNatClampNeg) (v := k) hM1 rfl
  refine J_aload_n 0 rfl dX8_logs_25 ?_
  refine gf_8_75 n30 dX8_logs_26 ?_
  refine J_iload_n 3 rfl dX8_logs_29 ?_
  refine J_iload_n 2 rfl dX8_logs_30 ?_
  refine J_iast (I' := ku (ku (ku I 68 0 (((m.1 30 27) - (m.1 30 27) / 60 * 60).toNatClampNeg) (m.1 30 26)) 69 0 (((m.1 30 27) - (m.1 30 27) / 60 * 60).toNatClampNeg) k) 70 0 (((m.1 30 27) - (m.1 30 27) / 60 * 60).toNatClampNeg) n) (L' := L) (R' := R) (((m.1 30 27) - (m.1 30 27) / 60 * 60).toNatClampNeg) 0 n70 rfl rfl (by assumption) rfl (by rw [ku_own]; rfl) (fun k' i' h => ⟨ku_row _ _ h, rfl, rfl⟩) dX8_logs_31 ?_
  have hM3 := MR_ms (k := 70) (j := ((m.1 30 27) - (m.1 30 27) / 60 * 60).toNatClampNeg) (v := n) hM2 rfl
  refine J_aload_n 0 rfl dX8_logs_32 ?_
  refine J_dup rfl dX8_logs_33 ?_
  refine gf_8_82 n30 dX8_logs_34 ?_
  refine J_topeq ((ms (ms (ms m 68 (((m.1 30 27) - (m.1 30 27) / 60 * 60).toNatClampNeg) (m.1 30 26)) 69 (((m.1 30 27) - (m.1 30 27) / 60 * 60).toNatClampNeg) k) 70 (((m.1 30 27) - (m.1 30 27) / 60 * 60).toNatClampNeg) n).1 30 27) (hM3.1 30 27 rfl) ?_
  refine J_iconst (v := 1) (by decide) dX8_logs_37 ?_
  refine J_iadd dX8_logs_38 ?_
  refine pf_8_82 n30 dX8_logs_39 ?_
  have hM4 := MR_ms (k := 30) (j := 27) (v := (((ms (ms (ms m 68 (((m.1 30 27) - (m.1 30 27) / 60 * 60).toNatClampNeg) (m.1 30 26)) 69 (((m.1 30 27) - (m.1 30 27) / 60 * 60).toNatClampNeg) k) 70 (((m.1 30 27) - (m.1 30 27) / 60 * 60).toNatClampNeg) n).1 30 27) + 1)) hM3 rfl
  exact J_return rfl dX8_logs_42 (⟨rfl, _, _, rfl, hM4⟩) (by omega) (by omega)

set_option maxRecDepth 20000 in
set_option maxHeartbeats 1000000 in
theorem c_X8_isNone {cy : Nat → ClassId} {S : Nat → Nat → Nat} {I : kI} {L : kL} {R : kRf} {m : Mu} {cd : Int32} {x : Int32} (hM : MR m cd I L)(hn : mN m) : Con yX8_isNone cX8_isNone 2 (some .boolean) 1 0 0 cy [.ref (ka S 30 0), .int x] (wm cy S I L R) (kRet (some (.int (kb (!(decide (0 ≤ x) && decide (x ≤ nI (mS m) - 1)))))) (wm cy S I L R)) kF := by
  refine Con_of (by decide +kernel) (Nat.le_of_ble_eq_true rfl) ?_
  refine J_eq (lv' := [(0, .ref (ka S 30 0)), (1, .int x)]) rfl rfl rfl ?_
  refine J_iload_n 1 rfl dX8_isNone_0 ?_
  refine J_iconst (v := 0) (by decide) dX8_isNone_1 ?_
  refine J_aload_n 0 rfl dX8_isNone_2 ?_
  refine gf_8_88 n30 dX8_isNone_3 ?_
  refine J_topeq (nI (mS m)) ((hM.1 30 0 rfl).trans (by exact hn.1)) ?_
  refine J_iconst (v := 1) (by decide) dX8_isNone_6 ?_
  refine J_isub dX8_isNone_7 ?_
  refine cv_8_91 (i := 0) (cells' := 0) (slots' := 0) dX8_isNone_8 (c_X8_in) ⟨by decide, by decide⟩ rfl rfl (by decide) (by decide) (Nat.le_of_ble_eq_true rfl) (fun _ _ r1 => ?_) (fun _ _ h => h.elim)
  obtain ⟨rfl, rfl⟩ := r1
  refine J_eq (st' := [.int (kb (decide (0 ≤ x) && decide (x ≤ nI (mS m) - 1)))]) rfl rfl rfl ?_
  refine J_if_ne 18 (by decide) dX8_isNone_11 (fun c2 => ?_) (fun c2 => ?_)
  · skip
    refine J_iconst (v := 0) (by decide) dX8_isNone_18 ?_
    exact J_ireturn rfl (by first | rfl | assumption | simp [kb_nar]) dX8_isNone_19 (⟨by generalize (decide (0 ≤ x) && decide (x ≤ nI (mS m) - 1)) = b at *; cases b <;> first | rfl | (exfalso; simp_all [kb]), rfl⟩) (by omega) (by omega)
  · skip
    refine J_iconst (v := 1) (by decide) dX8_isNone_14 ?_
    refine J_goto 19 (by decide) dX8_isNone_15 ?_
    exact J_ireturn rfl (by first | rfl | assumption | simp [kb_nar]) dX8_isNone_19 (⟨by generalize (decide (0 ≤ x) && decide (x ≤ nI (mS m) - 1)) = b at *; cases b <;> first | rfl | (exfalso; simp_all [kb]), rfl⟩) (by omega) (by omega)

set_option maxRecDepth 20000 in
set_option maxHeartbeats 1000000 in
theorem c_X8_isNoCall {cy : Nat → ClassId} {S : Nat → Nat → Nat} {I : kI} {L : kL} {R : kRf} {m : Mu} {cd : Int32} {x : Int32} (hM : MR m cd I L)(hn : mN m) : Con yX8_isNoCall cX8_isNoCall 2 (some .boolean) 1 0 0 cy [.ref (ka S 30 0), .int x] (wm cy S I L R) (kRet (some (.int (kb (!(decide (0 ≤ x) && decide (x ≤ nI (mC m) - 1)))))) (wm cy S I L R)) kF := by
  refine Con_of (by decide +kernel) (Nat.le_of_ble_eq_true rfl) ?_
  refine J_eq (lv' := [(0, .ref (ka S 30 0)), (1, .int x)]) rfl rfl rfl ?_
  refine J_iload_n 1 rfl dX8_isNoCall_0 ?_
  refine J_iconst (v := 0) (by decide) dX8_isNoCall_1 ?_
  refine J_aload_n 0 rfl dX8_isNoCall_2 ?_
  refine gf_8_135 n30 dX8_isNoCall_3 ?_
  refine J_topeq (nI (mC m)) ((hM.1 30 10 rfl).trans (by exact hn.2)) ?_
  refine J_iconst (v := 1) (by decide) dX8_isNoCall_6 ?_
  refine J_isub dX8_isNoCall_7 ?_
  refine cv_8_91 (i := 0) (cells' := 0) (slots' := 0) dX8_isNoCall_8 (c_X8_in) ⟨by decide, by decide⟩ rfl rfl (by decide) (by decide) (Nat.le_of_ble_eq_true rfl) (fun _ _ r1 => ?_) (fun _ _ h => h.elim)
  obtain ⟨rfl, rfl⟩ := r1
  refine J_eq (st' := [.int (kb (decide (0 ≤ x) && decide (x ≤ nI (mC m) - 1)))]) rfl rfl rfl ?_
  refine J_if_ne 18 (by decide) dX8_isNoCall_11 (fun c2 => ?_) (fun c2 => ?_)
  · skip
    refine J_iconst (v := 0) (by decide) dX8_isNoCall_18 ?_
    exact J_ireturn rfl (by first | rfl | assumption | simp [kb_nar]) dX8_isNoCall_19 (⟨by generalize (decide (0 ≤ x) && decide (x ≤ nI (mC m) - 1)) = b at *; cases b <;> first | rfl | (exfalso; simp_all [kb]), rfl⟩) (by omega) (by omega)
  · skip
    refine J_iconst (v := 1) (by decide) dX8_isNoCall_14 ?_
    refine J_goto 19 (by decide) dX8_isNoCall_15 ?_
    exact J_ireturn rfl (by first | rfl | assumption | simp [kb_nar]) dX8_isNoCall_19 (⟨by generalize (decide (0 ≤ x) && decide (x ≤ nI (mC m) - 1)) = b at *; cases b <;> first | rfl | (exfalso; simp_all [kb]), rfl⟩) (by omega) (by omega)

set_option maxRecDepth 20000 in
set_option maxHeartbeats 1000000 in
theorem c_X8_isNoChannel {cy : Nat → ClassId} {S : Nat → Nat → Nat} {I : kI} {L : kL} {R : kRf}  {x : Int32}  : Con yX8_isNoChannel cX8_isNoChannel 2 (some .boolean) 1 0 0 cy [.ref (ka S 30 0), .int x] (wm cy S I L R) (kRet (some (.int (kb (!(decide (0 ≤ x) && decide (x ≤ 2)))))) (wm cy S I L R)) kF := by
  refine Con_of (by decide +kernel) (Nat.le_of_ble_eq_true rfl) ?_
  refine J_eq (lv' := [(0, .ref (ka S 30 0)), (1, .int x)]) rfl rfl rfl ?_
  refine J_iload_n 1 rfl dX8_isNoChannel_0 ?_
  refine J_iconst (v := 0) (by decide) dX8_isNoChannel_1 ?_
  refine J_iconst (v := 2) (by decide) dX8_isNoChannel_2 ?_
  refine cv_8_91 (i := 0) (cells' := 0) (slots' := 0) dX8_isNoChannel_3 (c_X8_in) ⟨by decide, by decide⟩ rfl rfl (by decide) (by decide) (Nat.le_of_ble_eq_true rfl) (fun _ _ r1 => ?_) (fun _ _ h => h.elim)
  obtain ⟨rfl, rfl⟩ := r1
  refine J_eq (st' := [.int (kb (decide (0 ≤ x) && decide (x ≤ 2)))]) rfl rfl rfl ?_
  refine J_if_ne 13 (by decide) dX8_isNoChannel_6 (fun c2 => ?_) (fun c2 => ?_)
  · skip
    refine J_iconst (v := 0) (by decide) dX8_isNoChannel_13 ?_
    exact J_ireturn rfl (by first | rfl | assumption | simp [kb_nar]) dX8_isNoChannel_14 (⟨by generalize (decide (0 ≤ x) && decide (x ≤ 2)) = b at *; cases b <;> first | rfl | (exfalso; simp_all [kb]), rfl⟩) (by omega) (by omega)
  · skip
    refine J_iconst (v := 1) (by decide) dX8_isNoChannel_9 ?_
    refine J_goto 14 (by decide) dX8_isNoChannel_10 ?_
    exact J_ireturn rfl (by first | rfl | assumption | simp [kb_nar]) dX8_isNoChannel_14 (⟨by generalize (decide (0 ≤ x) && decide (x ≤ 2)) = b at *; cases b <;> first | rfl | (exfalso; simp_all [kb]), rfl⟩) (by omega) (by omega)

theorem none_f {n x : Nat} (hn : n < 2 ^ 31) (h : x < n) : (!(decide (0 ≤ nI x) && decide (nI x ≤ nI n - 1))) = false := by
  have e : nI n - 1 = nI (n - 1) := nI_subL (a := n) (n := 1) (by omega)
  rw [e, decide_eq_true (nI_pos' (by omega)), decide_eq_true ((nI_leI (by omega) (by omega)).mpr (by omega))]; rfl
theorem none_t {n : Nat} {x : Int32} (hn : n < 2 ^ 31) (h : ∀ s, s < n → x ≠ nI s) : (!(decide (0 ≤ x) && decide (x ≤ nI n - 1))) = true := by
  by_cases h0 : 0 ≤ x
  · obtain ⟨k, hk, rfl⟩ := nI_of (x := x) (by grind)
    by_cases hz : n = 0
    · subst hz
      have : ¬ nI k ≤ nI 0 - 1 := by
        intro z
        have e : nI 0 - 1 = -1 := by decide
        rw [e] at z
        grind
      simp [this]
    · have e : nI n - 1 = nI (n - 1) := nI_subL (a := n) (n := 1) (by omega)
      have : ¬ nI k ≤ nI (n - 1) := by
        intro z
        have := (nI_leI (by omega) (by omega)).mp z
        exact h k (by omega) rfl
      rw [e]
      simp [this]
  · simp [h0]

set_option maxRecDepth 20000 in
set_option maxHeartbeats 1000000 in
theorem c_X8_isFar {cy : Nat → ClassId} {S : Nat → Nat → Nat} {I : kI} {L : kL} {R : kRf} {m : Mu} {cd : Int32} {a b : Nat} (hM : MR m cd I L) (ha : a < 10) (hb : b < 10) : Con yX8_isFar cX8_isFar 4 (some .boolean) 0 0 0 cy [.ref (ka S 30 0), .int (nI a), .int (nI b)] (wm cy S I L R) (kRet (some (.int (kb (mFar m a b)))) (wm cy S I L R)) kF := by
  refine Con_of (by decide +kernel) (Nat.le_of_ble_eq_true rfl) ?_
  refine J_eq (lv' := [(0, .ref (ka S 30 0)), (1, .int (nI a)), (2, .int (nI b))]) rfl rfl rfl ?_
  refine J_aload_n 0 rfl dX8_isFar_0 ?_
  refine gf_8_7 n30 dX8_isFar_1 ?_
  refine J_iload_n 1 rfl dX8_isFar_4 ?_
  refine J_iald a 0 n41 rfl rfl (vp_in_nI (by omega) (by decide)) (nI_toNat (by omega)) dX8_isFar_5 ?_
  refine J_topeq (m.1 41 a) (hM.1 41 a rfl) ?_
  refine J_aload_n 0 rfl dX8_isFar_6 ?_
  refine gf_8_7 n30 dX8_isFar_7 ?_
  refine J_iload_n 2 rfl dX8_isFar_10 ?_
  refine J_iald b 0 n41 rfl rfl (vp_in_nI (by omega) (by decide)) (nI_toNat (by omega)) dX8_isFar_11 ?_
  refine J_topeq (m.1 41 b) (hM.1 41 b rfl) ?_
  refine J_icmp_ge 31 (by decide) dX8_isFar_12 (fun c1 => ?_) (fun c1 => ?_)
  · skip
    refine J_aload_n 0 rfl dX8_isFar_31 ?_
    refine gf_8_7 n30 dX8_isFar_32 ?_
    refine J_iload_n 1 rfl dX8_isFar_35 ?_
    refine J_iald a 0 n41 rfl rfl (vp_in_nI (by omega) (by decide)) (nI_toNat (by omega)) dX8_isFar_36 ?_
    refine J_topeq (m.1 41 a) (hM.1 41 a rfl) ?_
    refine J_aload_n 0 rfl dX8_isFar_37 ?_
    refine gf_8_7 n30 dX8_isFar_38 ?_
    refine J_iload_n 2 rfl dX8_isFar_41 ?_
    refine J_iald b 0 n41 rfl rfl (vp_in_nI (by omega) (by decide)) (nI_toNat (by omega)) dX8_isFar_42 ?_
    refine J_topeq (m.1 41 b) (hM.1 41 b rfl) ?_
    refine J_isub dX8_isFar_43 ?_
    refine J_istore_n (lv' := [(0, .ref (ka S 30 0)), (1, .int (nI a)), (2, .int (nI b)), (3, .int ((m.1 41 a) - (m.1 41 b)))]) (by decide) rfl dX8_isFar_44 ?_
    refine J_iload_n 3 rfl dX8_isFar_45 ?_
    refine J_aload_n 0 rfl dX8_isFar_46 ?_
    refine gf_8_13 n30 dX8_isFar_47 ?_
    refine J_iload_n 1 rfl dX8_isFar_50 ?_
    refine J_iald a 0 n42 rfl rfl (vp_in_nI (by omega) (by decide)) (nI_toNat (by omega)) dX8_isFar_51 ?_
    refine J_topeq (m.1 42 a) (hM.1 42 a rfl) ?_
    refine J_icmp_gt 65 (by decide) dX8_isFar_52 (fun c2 => ?_) (fun c2 => ?_)
    · skip
      refine J_iconst (v := 1) (by decide) dX8_isFar_65 ?_
      refine J_goto 70 (by decide) dX8_isFar_66 ?_
      exact J_ireturn rfl (by first | rfl | assumption | simp [kb_nar]) dX8_isFar_70 (⟨by unfold mFar mApart; first | (rw [if_neg (show ¬ m.1 41 a < m.1 41 b by grind)]; simp_all [kb]; done) | (rw [if_pos (show m.1 41 a < m.1 41 b by grind)]; simp_all [kb]; done), rfl⟩) (by omega) (by omega)
    · skip
      refine J_iload_n 3 rfl dX8_isFar_55 ?_
      refine J_aload_n 0 rfl dX8_isFar_56 ?_
      refine gf_8_13 n30 dX8_isFar_57 ?_
      refine J_iload_n 2 rfl dX8_isFar_60 ?_
      refine J_iald b 0 n42 rfl rfl (vp_in_nI (by omega) (by decide)) (nI_toNat (by omega)) dX8_isFar_61 ?_
      refine J_topeq (m.1 42 b) (hM.1 42 b rfl) ?_
      refine J_icmp_le 69 (by decide) dX8_isFar_62 (fun c3 => ?_) (fun c3 => ?_)
      · skip
        refine J_iconst (v := 0) (by decide) dX8_isFar_69 ?_
        exact J_ireturn rfl (by first | rfl | assumption | simp [kb_nar]) dX8_isFar_70 (⟨by unfold mFar mApart; first | (rw [if_neg (show ¬ m.1 41 a < m.1 41 b by grind)]; simp_all [kb]; done) | (rw [if_pos (show m.1 41 a < m.1 41 b by grind)]; simp_all [kb]; done), rfl⟩) (by omega) (by omega)
      · skip
        refine J_iconst (v := 1) (by decide) dX8_isFar_65 ?_
        refine J_goto 70 (by decide) dX8_isFar_66 ?_
        exact J_ireturn rfl (by first | rfl | assumption | simp [kb_nar]) dX8_isFar_70 (⟨by unfold mFar mApart; first | (rw [if_neg (show ¬ m.1 41 a < m.1 41 b by grind)]; simp_all [kb]; done) | (rw [if_pos (show m.1 41 a < m.1 41 b by grind)]; simp_all [kb]; done), rfl⟩) (by omega) (by omega)
  · skip
    refine J_aload_n 0 rfl dX8_isFar_15 ?_
    refine gf_8_7 n30 dX8_isFar_16 ?_
    refine J_iload_n 2 rfl dX8_isFar_19 ?_
    refine J_iald b 0 n41 rfl rfl (vp_in_nI (by omega) (by decide)) (nI_toNat (by omega)) dX8_isFar_20 ?_
    refine J_topeq (m.1 41 b) (hM.1 41 b rfl) ?_
    refine J_aload_n 0 rfl dX8_isFar_21 ?_
    refine gf_8_7 n30 dX8_isFar_22 ?_
    refine J_iload_n 1 rfl dX8_isFar_25 ?_
    refine J_iald a 0 n41 rfl rfl (vp_in_nI (by omega) (by decide)) (nI_toNat (by omega)) dX8_isFar_26 ?_
    refine J_topeq (m.1 41 a) (hM.1 41 a rfl) ?_
    refine J_isub dX8_isFar_27 ?_
    refine J_goto 44 (by decide) dX8_isFar_28 ?_
    refine J_istore_n (lv' := [(0, .ref (ka S 30 0)), (1, .int (nI a)), (2, .int (nI b)), (3, .int ((m.1 41 b) - (m.1 41 a)))]) (by decide) rfl dX8_isFar_44 ?_
    refine J_iload_n 3 rfl dX8_isFar_45 ?_
    refine J_aload_n 0 rfl dX8_isFar_46 ?_
    refine gf_8_13 n30 dX8_isFar_47 ?_
    refine J_iload_n 1 rfl dX8_isFar_50 ?_
    refine J_iald a 0 n42 rfl rfl (vp_in_nI (by omega) (by decide)) (nI_toNat (by omega)) dX8_isFar_51 ?_
    refine J_topeq (m.1 42 a) (hM.1 42 a rfl) ?_
    refine J_icmp_gt 65 (by decide) dX8_isFar_52 (fun c4 => ?_) (fun c4 => ?_)
    · skip
      refine J_iconst (v := 1) (by decide) dX8_isFar_65 ?_
      refine J_goto 70 (by decide) dX8_isFar_66 ?_
      exact J_ireturn rfl (by first | rfl | assumption | simp [kb_nar]) dX8_isFar_70 (⟨by unfold mFar mApart; first | (rw [if_neg (show ¬ m.1 41 a < m.1 41 b by grind)]; simp_all [kb]; done) | (rw [if_pos (show m.1 41 a < m.1 41 b by grind)]; simp_all [kb]; done), rfl⟩) (by omega) (by omega)
    · skip
      refine J_iload_n 3 rfl dX8_isFar_55 ?_
      refine J_aload_n 0 rfl dX8_isFar_56 ?_
      refine gf_8_13 n30 dX8_isFar_57 ?_
      refine J_iload_n 2 rfl dX8_isFar_60 ?_
      refine J_iald b 0 n42 rfl rfl (vp_in_nI (by omega) (by decide)) (nI_toNat (by omega)) dX8_isFar_61 ?_
      refine J_topeq (m.1 42 b) (hM.1 42 b rfl) ?_
      refine J_icmp_le 69 (by decide) dX8_isFar_62 (fun c5 => ?_) (fun c5 => ?_)
      · skip
        refine J_iconst (v := 0) (by decide) dX8_isFar_69 ?_
        exact J_ireturn rfl (by first | rfl | assumption | simp [kb_nar]) dX8_isFar_70 (⟨by unfold mFar mApart; first | (rw [if_neg (show ¬ m.1 41 a < m.1 41 b by grind)]; simp_all [kb]; done) | (rw [if_pos (show m.1 41 a < m.1 41 b by grind)]; simp_all [kb]; done), rfl⟩) (by omega) (by omega)
      · skip
        refine J_iconst (v := 1) (by decide) dX8_isFar_65 ?_
        refine J_goto 70 (by decide) dX8_isFar_66 ?_
        exact J_ireturn rfl (by first | rfl | assumption | simp [kb_nar]) dX8_isFar_70 (⟨by unfold mFar mApart; first | (rw [if_neg (show ¬ m.1 41 a < m.1 41 b by grind)]; simp_all [kb]; done) | (rw [if_pos (show m.1 41 a < m.1 41 b by grind)]; simp_all [kb]; done), rfl⟩) (by omega) (by omega)

set_option maxRecDepth 20000 in
set_option maxHeartbeats 1000000 in
theorem c_X8_isHeard {cy : Nat → ClassId} {S : Nat → Nat → Nat} {I : kI} {L : kL} {R : kRf} {m : Mu} {cd : Int32} {a b : Nat} (hM : MR m cd I L) (ha : a < 10) (hb : b < 10) : Con yX8_isHeard cX8_isHeard 3 (some .boolean) 1 0 0 cy [.ref (ka S 30 0), .int (nI a), .int (nI b)] (wm cy S I L R) (kRet (some (.int (kb (mAdj m a b)))) (wm cy S I L R)) kF := by
  refine Con_of (by decide +kernel) (Nat.le_of_ble_eq_true rfl) ?_
  refine J_eq (lv' := [(0, .ref (ka S 30 0)), (1, .int (nI a)), (2, .int (nI b))]) rfl rfl rfl ?_
  refine J_iload_n 1 rfl dX8_isHeard_0 ?_
  refine J_iload_n 2 rfl dX8_isHeard_1 ?_
  refine J_icmp_eq 36 (by decide) dX8_isHeard_2 (fun c1 => ?_) (fun c1 => ?_)
  · have Nc1 : a = b := (nI_eqL (a := a) (b := b) (by omega) (by omega)).mp c1
    refine J_iconst (v := 0) (by decide) dX8_isHeard_36 ?_
    exact J_ireturn rfl (by first | rfl | assumption | simp [kb_nar]) dX8_isHeard_37 (⟨by unfold mAdj; simp_all [kb], rfl⟩) (by omega) (by omega)
  · have Nc1 : ¬ (a = b) := fun q => c1 ((nI_eqL (a := a) (b := b) (by omega) (by omega)).mpr q)
    refine J_aload_n 0 rfl dX8_isHeard_5 ?_
    refine gf_8_16 n30 dX8_isHeard_6 ?_
    refine J_iload_n 1 rfl dX8_isHeard_9 ?_
    refine J_zald a 2 n43 rfl rfl (vp_in_nI (by omega) (by decide)) (nI_toNat (by omega)) dX8_isHeard_10 ?_
    refine J_topeq (m.1 43 a) (hM.1 43 a rfl) ?_
    refine J_if_ne 36 (by decide) dX8_isHeard_11 (fun c2 => ?_) (fun c2 => ?_)
    · skip
      refine J_iconst (v := 0) (by decide) dX8_isHeard_36 ?_
      exact J_ireturn rfl (by first | rfl | assumption | simp [kb_nar]) dX8_isHeard_37 (⟨by unfold mAdj; simp_all [kb], rfl⟩) (by omega) (by omega)
    · skip
      refine J_aload_n 0 rfl dX8_isHeard_14 ?_
      refine gf_8_16 n30 dX8_isHeard_15 ?_
      refine J_iload_n 2 rfl dX8_isHeard_18 ?_
      refine J_zald b 2 n43 rfl rfl (vp_in_nI (by omega) (by decide)) (nI_toNat (by omega)) dX8_isHeard_19 ?_
      refine J_topeq (m.1 43 b) (hM.1 43 b rfl) ?_
      refine J_if_ne 36 (by decide) dX8_isHeard_20 (fun c3 => ?_) (fun c3 => ?_)
      · skip
        refine J_iconst (v := 0) (by decide) dX8_isHeard_36 ?_
        exact J_ireturn rfl (by first | rfl | assumption | simp [kb_nar]) dX8_isHeard_37 (⟨by unfold mAdj; simp_all [kb], rfl⟩) (by omega) (by omega)
      · skip
        refine J_aload_n 0 rfl dX8_isHeard_23 ?_
        refine J_iload_n 1 rfl dX8_isHeard_24 ?_
        refine J_iload_n 2 rfl dX8_isHeard_25 ?_
        refine cv_8_95 (cells' := 0) (slots' := 0) dX8_isHeard_26 (c_X8_isFar hM ha hb) n30 ⟨by decide, by decide⟩ rfl rfl (by decide) (by decide) (Nat.le_of_ble_eq_true rfl) (fun _ _ r4 => ?_) (fun _ _ h => h.elim)
        obtain ⟨rfl, rfl⟩ := r4
        refine J_eq (st' := [.int (kb (mFar m a b))]) rfl rfl rfl ?_
        refine J_if_ne 36 (by decide) dX8_isHeard_29 (fun c5 => ?_) (fun c5 => ?_)
        · skip
          refine J_iconst (v := 0) (by decide) dX8_isHeard_36 ?_
          exact J_ireturn rfl (by first | rfl | assumption | simp [kb_nar]) dX8_isHeard_37 (⟨by unfold mAdj; simp_all [kb], rfl⟩) (by omega) (by omega)
        · skip
          refine J_iconst (v := 1) (by decide) dX8_isHeard_32 ?_
          refine J_goto 37 (by decide) dX8_isHeard_33 ?_
          exact J_ireturn rfl (by first | rfl | assumption | simp [kb_nar]) dX8_isHeard_37 (⟨by unfold mAdj; simp_all [kb], rfl⟩) (by omega) (by omega)

