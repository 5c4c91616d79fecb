/-! LogBook; the channels' writes -/
def logW (I : kI) (nx kp : Nat) (t k n : Int32) : kI := ku (ku (ku (ku (ku (ku I 18 nx 0 t) 18 nx 1 k) 18 nx 2 n) 4 0 1 (nI (if nx + 1 < 60 then nx + 1 else 0))) 4 0 2 (nI (min (kp + 1) 60))) 4 0 3 (I 4 0 3 + 1)
theorem kmin_n {a b : Nat} (ha : a < 2 ^ 31) (hb : b < 2 ^ 31) : kmin (nI a) (nI b) = nI (min a b) := by
  unfold kmin
  by_cases h : b < a
  · rw [if_pos ((nI_ltI hb ha).mpr h), Nat.min_eq_right (by omega)]
  · rw [if_neg (fun q => h ((nI_ltI hb ha).mp q)), Nat.min_eq_left (by omega)]

set_option maxRecDepth 20000 in
set_option maxHeartbeats 1000000 in
theorem c_X4_write {cy : Nat → ClassId} {S : Nat → Nat → Nat} {I : kI} {L : kL} {R : kRf} {LP : List Nat} {nx kp : Nat} {t k n : Int32} (hnx : I 4 0 1 = nI nx) (hkp : I 4 0 2 = nI kp) (h1 : nx < 60) (h2 : kp ≤ 60) (hk1 : narrow .char (.int k) = .int k) (hk2 : fits .char (.int k) = true) : Con yX4_write cX4_write 4 none 1 0 0 cy [.ref (ka S 4 0), .int t, .int k, .int n] (wc cy S I L R LP) (kRet none (wc cy S (logW I nx kp t k n) L R LP)) kF := by
  refine Con_of (by decide +kernel) (Nat.le_of_ble_eq_true rfl) ?_
  refine J_eq (lv' := [(0, .ref (ka S 4 0)), (1, .int t), (2, .int k), (3, .int n)]) rfl rfl rfl ?_
  refine J_aload_n 0 rfl dX4_write_0 ?_
  refine gf_4_18 (n4 _) dX4_write_1 ?_
  refine J_topeq (nI nx) (by first | exact hnx | (simp [ku]; exact hnx)) ?_
  refine J_if_lt 58 (by decide) dX4_write_4 (fun c1 => ?_) (fun c1 => ?_)
  · exfalso
    have Nc1 : nx < 0 := (nI_ltI (a := nx) (b := 0) (by omega) (by omega)).mp c1
    omega
  have Nc1 : ¬ (nx < 0) := fun q => c1 ((nI_ltI (a := nx) (b := 0) (by omega) (by omega)).mpr q)
  refine J_aload_n 0 rfl dX4_write_7 ?_
  refine gf_4_18 (n4 _) dX4_write_8 ?_
  refine J_topeq (nI nx) (by first | exact hnx | (simp [ku]; exact hnx)) ?_
  refine J_aload_n 0 rfl dX4_write_11 ?_
  refine gf_4_11 (n4 _) dX4_write_12 ?_
  refine J_alen (v := 60) 7 (n16 _) rfl rfl rfl dX4_write_15 ?_
  refine J_icmp_ge 58 (by decide) dX4_write_16 (fun c2 => ?_) (fun c2 => ?_)
  · exfalso
    have Nc2 : 60 ≤ nx := (nI_leI (a := 60) (b := nx) (by omega) (by omega)).mp c2
    omega
  have Nc2 : ¬ (60 ≤ nx) := fun q => c2 ((nI_leI (a := 60) (b := nx) (by omega) (by omega)).mpr q)
  refine J_aload_n 0 rfl dX4_write_19 ?_
  refine gf_4_11 (n4 _) dX4_write_20 ?_
  refine J_aload_n 0 rfl dX4_write_23 ?_
  refine gf_4_18 (n4 _) dX4_write_24 ?_
  refine J_topeq (nI nx) (by first | exact hnx | (simp [ku]; exact hnx)) ?_
  refine J_aald nx 7 (n16 _) rfl rfl (vp_in_nI (by omega) (by decide)) (nI_toNat (by omega)) dX4_write_27 ?_
  refine J_iload_n 1 rfl dX4_write_28 ?_
  refine pf_4_22 (n18 _ (by first | omega | exact slotF_lt (by omega) (by omega))) dX4_write_29 ?_
  refine J_aload_n 0 rfl dX4_write_32 ?_
  refine gf_4_11 (n4 _) dX4_write_33 ?_
  refine J_aload_n 0 rfl dX4_write_36 ?_
  refine gf_4_18 (n4 _) dX4_write_37 ?_
  refine J_topeq (nI nx) (by first | exact hnx | (simp [ku]; exact hnx)) ?_
  refine J_aald nx 7 (n16 _) rfl rfl (vp_in_nI (by omega) (by decide)) (nI_toNat (by omega)) dX4_write_40 ?_
  refine J_iload_n 2 rfl dX4_write_41 ?_
  refine pf_4_25 (by first | assumption | decide | simp) (by first | assumption | decide | simp) (n18 _ (by first | omega | exact slotF_lt (by omega) (by omega))) dX4_write_42 ?_
  refine J_aload_n 0 rfl dX4_write_45 ?_
  refine gf_4_11 (n4 _) dX4_write_46 ?_
  refine J_aload_n 0 rfl dX4_write_49 ?_
  refine gf_4_18 (n4 _) dX4_write_50 ?_
  refine J_topeq (nI nx) (by first | exact hnx | (simp [ku]; exact hnx)) ?_
  refine J_aald nx 7 (n16 _) rfl rfl (vp_in_nI (by omega) (by decide)) (nI_toNat (by omega)) dX4_write_53 ?_
  refine J_iload_n 3 rfl dX4_write_54 ?_
  refine pf_4_29 (n18 _ (by first | omega | exact slotF_lt (by omega) (by omega))) dX4_write_55 ?_
  refine J_aload_n 0 rfl dX4_write_58 ?_
  refine J_aload_n 0 rfl dX4_write_59 ?_
  refine gf_4_18 (n4 _) dX4_write_60 ?_
  refine J_topeq (nI nx) (by first | exact hnx | (simp [ku]; exact hnx)) ?_
  refine J_iconst (v := 1) (by decide) dX4_write_63 ?_
  refine J_iadd dX4_write_64 ?_
  refine J_topeq (nI (nx + 1)) (by exact nI_add nx 1) ?_
  refine J_aload_n 0 rfl dX4_write_65 ?_
  refine gf_4_11 (n4 _) dX4_write_66 ?_
  refine J_alen (v := 60) 7 (n16 _) rfl rfl rfl dX4_write_69 ?_
  refine J_icmp_ge 82 (by decide) dX4_write_70 (fun c3 => ?_) (fun c3 => ?_)
  · have Nc3 : 60 ≤ (nx + 1) := (nI_leI (a := 60) (b := (nx + 1)) (by omega) (by omega)).mp c3
    refine J_iconst (v := 0) (by decide) dX4_write_82 ?_
    refine pf_4_18 (n4 _) dX4_write_83 ?_
    refine J_aload_n 0 rfl dX4_write_86 ?_
    refine J_aload_n 0 rfl dX4_write_87 ?_
    refine gf_4_32 (n4 _) dX4_write_88 ?_
    refine J_topeq (nI kp) (by first | exact hkp | (simp [ku]; exact hkp)) ?_
    refine J_iconst (v := 1) (by decide) dX4_write_91 ?_
    refine J_iadd dX4_write_92 ?_
    refine J_topeq (nI (kp + 1)) (by exact nI_add kp 1) ?_
    refine J_aload_n 0 rfl dX4_write_93 ?_
    refine gf_4_11 (n4 _) dX4_write_94 ?_
    refine J_alen (v := 60) 7 (n16 _) rfl rfl rfl dX4_write_97 ?_
    refine J_min lm_4_35 (by decide) (Nat.le_of_ble_eq_true rfl) (by decide) (by decide) dX4_write_98 ?_
    refine J_topeq (nI (min (kp + 1) 60)) (kmin_n (a := kp + 1) (b := 60) (by omega) (by decide)) ?_
    refine pf_4_32 (n4 _) dX4_write_101 ?_
    refine J_aload_n 0 rfl dX4_write_104 ?_
    refine J_dup rfl dX4_write_105 ?_
    refine gf_4_41 (n4 _) dX4_write_106 ?_
    refine J_iconst (v := 1) (by decide) dX4_write_109 ?_
    refine J_iadd dX4_write_110 ?_
    refine pf_4_41 (n4 _) dX4_write_111 ?_
    exact J_return rfl dX4_write_114 (⟨rfl, by unfold logW; first | (rw [if_pos (by omega)]; rfl) | (rw [if_neg (by omega)]; rfl)⟩) (by omega) (by omega)
  · have Nc3 : ¬ (60 ≤ (nx + 1)) := fun q => c3 ((nI_leI (a := 60) (b := (nx + 1)) (by omega) (by omega)).mpr q)
    refine J_aload_n 0 rfl dX4_write_73 ?_
    refine gf_4_18 (n4 _) dX4_write_74 ?_
    refine J_topeq (nI nx) (by first | exact hnx | (simp [ku]; exact hnx)) ?_
    refine J_iconst (v := 1) (by decide) dX4_write_77 ?_
    refine J_iadd dX4_write_78 ?_
    refine J_topeq (nI (nx + 1)) (by exact nI_add nx 1) ?_
    refine J_goto 83 (by decide) dX4_write_79 ?_
    refine pf_4_18 (n4 _) dX4_write_83 ?_
    refine J_aload_n 0 rfl dX4_write_86 ?_
    refine J_aload_n 0 rfl dX4_write_87 ?_
    refine gf_4_32 (n4 _) dX4_write_88 ?_
    refine J_topeq (nI kp) (by first | exact hkp | (simp [ku]; exact hkp)) ?_
    refine J_iconst (v := 1) (by decide) dX4_write_91 ?_
    refine J_iadd dX4_write_92 ?_
    refine J_topeq (nI (kp + 1)) (by exact nI_add kp 1) ?_
    refine J_aload_n 0 rfl dX4_write_93 ?_
    refine gf_4_11 (n4 _) dX4_write_94 ?_
    refine J_alen (v := 60) 7 (n16 _) rfl rfl rfl dX4_write_97 ?_
    refine J_min lm_4_35 (by decide) (Nat.le_of_ble_eq_true rfl) (by decide) (by decide) dX4_write_98 ?_
    refine J_topeq (nI (min (kp + 1) 60)) (kmin_n (a := kp + 1) (b := 60) (by omega) (by decide)) ?_
    refine pf_4_32 (n4 _) dX4_write_101 ?_
    refine J_aload_n 0 rfl dX4_write_104 ?_
    refine J_dup rfl dX4_write_105 ?_
    refine gf_4_41 (n4 _) dX4_write_106 ?_
    refine J_iconst (v := 1) (by decide) dX4_write_109 ?_
    refine J_iadd dX4_write_110 ?_
    refine pf_4_41 (n4 _) dX4_write_111 ?_
    exact J_return rfl dX4_write_114 (⟨rfl, by unfold logW; first | (rw [if_pos (by omega)]; rfl) | (rw [if_neg (by omega)]; rfl)⟩) (by omega) (by omega)
