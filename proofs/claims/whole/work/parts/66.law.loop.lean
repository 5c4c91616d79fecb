/-! the law's loop -/
theorem and63 (x : Int32) : ∃ n : Nat, n < 64 ∧ x &&& 63 = nI n := by
  refine ⟨(x &&& 63).toBitVec.toNat, ?_, ?_⟩
  · rw [Int32.toBitVec_and, BitVec.toNat_and]
    have e : (63 : Int32).toBitVec.toNat = 2 ^ 6 - 1 := by decide
    rw [e, Nat.and_two_pow_sub_one_eq_mod]
    exact Nat.mod_lt _ (by decide)
  · refine Int32.toBitVec_inj.mp ?_
    show _ = (Int32.ofNat _).toBitVec
    rw [Int32.toBitVec_ofNat']
    exact (BitVec.ofNat_toNat _ _).symm ▸ (by simp)
theorem law_lt {z Lx : Nat} (h1 : z < 4000) (h2 : Lx ≤ 2560) : (nI Lx - 5 < nI z) ↔ Lx < z + 5 := by
  rw [Int32.lt_iff_toInt_lt, Int32.toInt_sub, nI_toInt (n := z) (by omega), nI_toInt (n := Lx) (by omega)]
  have e5 : (5 : Int32).toInt = 5 := by decide
  rw [e5, Int.bmod_eq_of_le (by omega) (by omega)]
  omega

set_option maxRecDepth 20000 in
set_option maxHeartbeats 4000000 in
theorem law_loop {cy : Nat → ClassId} {S : Nat → Nat → Nat} {R2 : kRf} {b Lx : Nat} {xs : Nat → Int32} (hLx : Lx ≤ 2560) : ∀ (f n z : Nat) (I : kI) (L : kL) (R : kRf) (LP : List Nat) (rc : Nat → Nat) (ln qu : List Nat) (lg : Nat) (I2 : kI) (L2 G : kL) (m : Mu) (B : Nat) (cd : Int32) (cells slots : Nat), Lx ≤ z + 5 * f → z = 5 * n → n ≤ 513 → Rel m I L R LP rc ln qu lg → lg < 2 ^ 31 → Inv m B → B ≤ 90000 * n → MR m cd I2 L2 → cells ≤ 1000 + 100 * n → slots ≤ 100000 + 1300 * n → JG RL cL_law 9 cy room_1 (ExL b Lx xs) FinL 28 [(0, .ref b), (1, .ref (ka S 0 0)), (2, .ref (ka S 30 0)), (3, .ref (ka S 80 0)), (4, .ref (ka S 81 0)), (5, .int (nI z))] [] (wm cy S I2 L2 R2 ++ (wc cy S I L R LP ++ wlo cy S G)) cells slots := by
  intro f
  induction f with
  | zero =>
    intro n z I L R LP rc ln qu lg I2 L2 G m B cd cells slots hf hzn hn hR hlg hI hB hM hcl hsl
    have hc1 : nI Lx - 5 < nI z := (law_lt (by omega) hLx).mpr (by omega)
    refine JG_iload 5 rfl dL_law_28 ?_
    refine JG_aload_n 0 rfl dL_law_30 ?_
    refine JG_slen dL_law_31 ?_
    refine JG_iconst (v := 5) (by decide) dL_law_32 ?_
    refine JG_isub dL_law_33 ?_
    refine JG_icmp_gt 2274 (by decide) dL_law_34 (fun c1 => ?_) (fun c1 => ?_)
    rotate_left
    · exfalso
      exact c1 hc1
    refine JG_iconst (v := 1) (by decide) dL_law_2274 ?_
    exact JG_iretL dL_law_2275 (by omega) (by omega)
  | succ f ih =>
    intro n z I L R LP rc ln qu lg I2 L2 G m B cd cells slots hf hzn hn hR hlg hI hB hM hcl hsl
    by_cases hge : Lx < z + 5
    · have hc1 : nI Lx - 5 < nI z := (law_lt (by omega) hLx).mpr hge
      refine JG_iload 5 rfl dL_law_28 ?_
      refine JG_aload_n 0 rfl dL_law_30 ?_
      refine JG_slen dL_law_31 ?_
      refine JG_iconst (v := 5) (by decide) dL_law_32 ?_
      refine JG_isub dL_law_33 ?_
      refine JG_icmp_gt 2274 (by decide) dL_law_34 (fun c1 => ?_) (fun c1 => ?_)
      rotate_left
      · exfalso
        exact c1 hc1
      refine JG_iconst (v := 1) (by decide) dL_law_2274 ?_
      exact JG_iretL dL_law_2275 (by omega) (by omega)
    · have hc1 : ¬ nI Lx - 5 < nI z := fun q => hge ((law_lt (by omega) hLx).mp q)
      have hB2 : B + 100000 < 2 ^ 30 := by omega
      have hlg2 := lg_lt hR.2.2.2.2.1 hI.2.2.2.2.2.2.1 (by omega) hlg
      have hz4 : z + 4 < Lx := by omega
      have kk : ∀ (m' : Mu) (B' : Nat) (w9 : va_W) (I2 : kI) (L2 : kL) (cd : Int32) (G : kL) (c' s' : Nat), (∃ LP rc, RelX cy S LP rc m' w9) → Inv m' B' → B' ≤ B + 90000 → MR m' cd I2 L2 → c' ≤ cells + 100 → s' ≤ slots + 1300 → JG RL cL_law 9 cy room_1 (ExL b Lx xs) FinL 2268 [(0, .ref b), (1, .ref (ka S 0 0)), (2, .ref (ka S 30 0)), (3, .ref (ka S 80 0)), (4, .ref (ka S 81 0)), (5, .int (nI z))] [] (wm cy S I2 L2 R2 ++ (w9 ++ wlo cy S G)) c' s' := by
        intro m' B' w9 I2 L2 cd G c' s' hX hI' hB' hM' hc' hs'
        obtain ⟨LP, rc, I, L, R, ln, qu, lg, rfl, hR', hlg'⟩ := hX
        refine JG_iinc (v := (nI (z + 5))) (lv' := [(0, .ref b), (1, .ref (ka S 0 0)), (2, .ref (ka S 30 0)), (3, .ref (ka S 80 0)), (4, .ref (ka S 81 0)), (5, .int (nI (z + 5)))]) 5 rfl (by exact nI_add z 5) (by decide) rfl dL_law_2268 ?_
        refine JG_goto 28 (by decide) dL_law_2271 ?_
        refine JG_sub (lv' := [(0, .ref b), (1, .ref (ka S 0 0)), (2, .ref (ka S 30 0)), (3, .ref (ka S 80 0)), (4, .ref (ka S 81 0)), (5, .int (nI (z + 5)))]) [0, 1, 2, 3, 4, 5] rfl ?_
        exact ih (n + 1) (z + 5) I L R LP rc ln qu lg I2 L2 G m' B' cd c' s' (by omega) (by omega) (by omega) hR' hlg' hI' (by omega) hM' (by omega) (by omega)
      obtain ⟨op, hop, eop⟩ := and63 (xs z)
      refine JG_iload 5 rfl dL_law_28 ?_
      refine JG_aload_n 0 rfl dL_law_30 ?_
      refine JG_slen dL_law_31 ?_
      refine JG_iconst (v := 5) (by decide) dL_law_32 ?_
      refine JG_isub dL_law_33 ?_
      refine JG_icmp_gt 2274 (by decide) dL_law_34 (fun c1 => ?_) (fun c1 => ?_)
      · exfalso
        exact hc1 c1
      refine JG_aload_n 0 rfl dL_law_37 ?_
      refine JG_iload 5 rfl dL_law_38 ?_
      refine JG_sld (vp_in_nI (by omega) (by omega)) dL_law_40 ?_
      refine JG_topeq (xs z) (by rw [nI_toNat (by omega)]) ?_
      refine JG_bipush (v := 63) (by decide) dL_law_41 ?_
      refine JG_iand dL_law_43 ?_
      refine JG_topeq (nI op) eop ?_
      by_cases hd : 38 ≤ op
      · refine JG_tableOut 2268 dL_law_44 (Or.inr (by rw [nI_toInt (n := op) (by omega)]; omega)) (by decide) ?_
        exact kk m B _ I2 L2 cd G cells slots ⟨LP, rc, I, L, R, ln, qu, lg, rfl, hR, hlg⟩ hI (by omega) hM (by omega) (by omega)
      have hop38 : op = 0 ∨ op = 1 ∨ op = 2 ∨ op = 3 ∨ op = 4 ∨ op = 5 ∨ op = 6 ∨ op = 7 ∨ op = 8 ∨ op = 9 ∨ op = 10 ∨ op = 11 ∨ op = 12 ∨ op = 13 ∨ op = 14 ∨ op = 15 ∨ op = 16 ∨ op = 17 ∨ op = 18 ∨ op = 19 ∨ op = 20 ∨ op = 21 ∨ op = 22 ∨ op = 23 ∨ op = 24 ∨ op = 25 ∨ op = 26 ∨ op = 27 ∨ op = 28 ∨ op = 29 ∨ op = 30 ∨ op = 31 ∨ op = 32 ∨ op = 33 ∨ op = 34 ∨ op = 35 ∨ op = 36 ∨ op = 37 := by omega
      rcases hop38 with rfl | rfl | rfl | rfl | rfl | rfl | rfl | rfl | rfl | rfl | rfl | rfl | rfl | rfl | rfl | rfl | rfl | rfl | rfl | rfl | rfl | rfl | rfl | rfl | rfl | rfl | rfl | rfl | rfl | rfl | rfl | rfl | rfl | rfl | rfl | rfl | rfl | rfl
      · refine JG_tableIn (off := 168) 212 dL_law_44 (by decide) (by decide) (by decide +kernel) (by decide) ?_
        exact lc_addStation hR hI hB2 hlg2 hM hz4 hLx (by omega) (by omega) rfl rfl kk
      · refine JG_tableIn (off := 236) 280 dL_law_44 (by decide) (by decide) (by decide +kernel) (by decide) ?_
        exact lc_move hR hI hB2 hlg2 hM hz4 hLx (by omega) (by omega) rfl rfl kk
      · refine JG_tableIn (off := 304) 348 dL_law_44 (by decide) (by decide) (by decide +kernel) (by decide) ?_
        exact lc_setOn hR hI hB2 hlg2 hM hz4 hLx (by omega) (by omega) rfl rfl kk
      · refine JG_tableIn (off := 395) 439 dL_law_44 (by decide) (by decide) (by decide +kernel) (by decide) ?_
        exact lc_stations hR hI hB2 hlg2 hM hz4 hLx (by omega) (by omega) kk
      · refine JG_tableIn (off := 408) 452 dL_law_44 (by decide) (by decide) (by decide +kernel) (by decide) ?_
        exact lc_placeOf hR hI hB2 hlg2 hM hz4 hLx (by omega) (by omega) rfl kk
      · refine JG_tableIn (off := 464) 508 dL_law_44 (by decide) (by decide) (by decide +kernel) (by decide) ?_
        exact lc_isOn hR hI hB2 hlg2 hM hz4 hLx (by omega) (by omega) rfl kk
      · refine JG_tableIn (off := 527) 571 dL_law_44 (by decide) (by decide) (by decide +kernel) (by decide) ?_
        exact lc_hears hR hI hB2 hlg2 hM hz4 hLx (by omega) (by omega) rfl rfl kk
      · refine JG_tableIn (off := 602) 646 dL_law_44 (by decide) (by decide) (by decide +kernel) (by decide) ?_
        exact lc_busyWith hR hI hB2 hlg2 hM hz4 hLx (by omega) (by omega) rfl kk
      · refine JG_tableIn (off := 658) 702 dL_law_44 (by decide) (by decide) (by decide +kernel) (by decide) ?_
        exact lc_relays hR hI hB2 hlg2 hM hz4 hLx (by omega) (by omega) rfl rfl kk
      · refine JG_tableIn (off := 726) 770 dL_law_44 (by decide) (by decide) (by decide +kernel) (by decide) ?_
        exact lc_relaysByJoining hR hI hB2 hlg2 hM hz4 hLx (by omega) (by omega) rfl rfl kk
      · refine JG_tableIn (off := 794) 838 dL_law_44 (by decide) (by decide) (by decide +kernel) (by decide) ?_
        exact lc_onWay hR hI hB2 hlg2 hM hz4 hLx (by omega) (by omega) rfl rfl rfl kk
      · refine JG_tableIn (off := 874) 918 dL_law_44 (by decide) (by decide) (by decide +kernel) (by decide) ?_
        exact lc_call hR hI hB2 hlg2 hM hz4 hLx (by omega) (by omega) rfl rfl rfl rfl kk
      · refine JG_tableIn (off := 968) 1012 dL_law_44 (by decide) (by decide) (by decide +kernel) (by decide) ?_
        exact lc_cancel hR hI hB2 hlg2 hM hz4 hLx (by omega) (by omega) rfl kk
      · refine JG_tableIn (off := 1024) 1068 dL_law_44 (by decide) (by decide) (by decide +kernel) (by decide) ?_
        exact lc_raise hR hI hB2 hlg2 hM hz4 hLx (by omega) (by omega) rfl rfl kk
      · refine JG_tableIn (off := 1094) 1138 dL_law_44 (by decide) (by decide) (by decide +kernel) (by decide) ?_
        exact lc_stateOf hR hI hB2 hlg2 hM hz4 hLx (by omega) (by omega) rfl kk
      · refine JG_tableIn (off := 1150) 1194 dL_law_44 (by decide) (by decide) (by decide +kernel) (by decide) ?_
        exact lc_urgencyOf hR hI hB2 hlg2 hM hz4 hLx (by omega) (by omega) rfl kk
      · refine JG_tableIn (off := 1206) 1250 dL_law_44 (by decide) (by decide) (by decide +kernel) (by decide) ?_
        exact lc_leftOf hR hI hB2 hlg2 hM hz4 hLx (by omega) (by omega) rfl kk
      · refine JG_tableIn (off := 1262) 1306 dL_law_44 (by decide) (by decide) (by decide +kernel) (by decide) ?_
        exact lc_channelOf hR hI hB2 hlg2 hM hz4 hLx (by omega) (by omega) rfl kk
      · refine JG_tableIn (off := 1318) 1362 dL_law_44 (by decide) (by decide) (by decide +kernel) (by decide) ?_
        exact lc_interruptions hR hI hB2 hlg2 hM hz4 hLx (by omega) (by omega) rfl kk
      · refine JG_tableIn (off := 1374) 1418 dL_law_44 (by decide) (by decide) (by decide +kernel) (by decide) ?_
        exact lc_speakerOn hR hI hB2 hlg2 hM hz4 hLx (by omega) (by omega) rfl kk
      · refine JG_tableIn (off := 1430) 1474 dL_law_44 (by decide) (by decide) (by decide +kernel) (by decide) ?_
        exact lc_calls hR hI hB2 hlg2 hM hz4 hLx (by omega) (by omega) kk
      · refine JG_tableIn (off := 1443) 1487 dL_law_44 (by decide) (by decide) (by decide +kernel) (by decide) ?_
        exact lc_waiting hR hI hB2 hlg2 hM hz4 hLx (by omega) (by omega) kk
      · refine JG_tableIn (off := 1456) 1500 dL_law_44 (by decide) (by decide) (by decide +kernel) (by decide) ?_
        exact lc_inLine hR hI hB2 hlg2 hM hz4 hLx (by omega) (by omega) rfl kk
      · refine JG_tableIn (off := 1512) 1556 dL_law_44 (by decide) (by decide) (by decide +kernel) (by decide) ?_
        exact lc_inLineByCounting hR hI hB2 hlg2 hM hz4 hLx (by omega) (by omega) rfl kk
      · refine JG_tableIn (off := 1568) 1612 dL_law_44 (by decide) (by decide) (by decide +kernel) (by decide) ?_
        exact lc_pass hR hI hB2 hlg2 hM hz4 hLx (by omega) (by omega) rfl kk
      · refine JG_tableIn (off := 1624) 1668 dL_law_44 (by decide) (by decide) (by decide +kernel) (by decide) ?_
        exact lc_time hR hI hB2 hlg2 hM hz4 hLx (by omega) (by omega) kk
      · refine JG_tableIn (off := 1637) 1681 dL_law_44 (by decide) (by decide) (by decide +kernel) (by decide) ?_
        exact lc_setWatch hR hI hB2 hlg2 hM hz4 hLx (by omega) (by omega) rfl rfl kk
      · refine JG_tableIn (off := 1705) 1749 dL_law_44 (by decide) (by decide) (by decide +kernel) (by decide) ?_
        exact lc_report hR hI hB2 hlg2 hM hz4 hLx (by omega) (by omega) rfl kk
      · refine JG_tableIn (off := 1761) 1805 dL_law_44 (by decide) (by decide) (by decide +kernel) (by decide) ?_
        exact lc_sinceReport hR hI hB2 hlg2 hM hz4 hLx (by omega) (by omega) rfl kk
      · refine JG_tableIn (off := 1817) 1861 dL_law_44 (by decide) (by decide) (by decide +kernel) (by decide) ?_
        exact lc_missed hR hI hB2 hlg2 hM hz4 hLx (by omega) (by omega) rfl kk
      · refine JG_tableIn (off := 1873) 1917 dL_law_44 (by decide) (by decide) (by decide +kernel) (by decide) ?_
        exact lc_logged hR hI hB2 hlg2 hM hz4 hLx (by omega) (by omega) kk
      · refine JG_tableIn (off := 1886) 1930 dL_law_44 (by decide) (by decide) (by decide +kernel) (by decide) ?_
        exact lc_logTime hR hI hB2 hlg2 hM hz4 hLx (by omega) (by omega) rfl kk
      · refine JG_tableIn (off := 1942) 1986 dL_law_44 (by decide) (by decide) (by decide +kernel) (by decide) ?_
        exact lc_logKind hR hI hB2 hlg2 hM hz4 hLx (by omega) (by omega) rfl kk
      · refine JG_tableIn (off := 1998) 2042 dL_law_44 (by decide) (by decide) (by decide +kernel) (by decide) ?_
        exact lc_logNumber hR hI hB2 hlg2 hM hz4 hLx (by omega) (by omega) rfl kk
      · refine JG_tableIn (off := 2054) 2098 dL_law_44 (by decide) (by decide) (by decide +kernel) (by decide) ?_
        exact lc_waited hR hI hB2 hlg2 hM hz4 hLx (by omega) (by omega) kk
      · refine JG_tableIn (off := 2068) 2112 dL_law_44 (by decide) (by decide) (by decide +kernel) (by decide) ?_
        exact lc_meanWait hR hI hB2 hlg2 hM hz4 hLx (by omega) (by omega) kk
      · refine JG_tableIn (off := 2133) 2177 dL_law_44 (by decide) (by decide) (by decide +kernel) (by decide) ?_
        exact lc_channelShare hR hI hB2 hlg2 hM hz4 hLx (by omega) (by omega) rfl kk
      · refine JG_tableIn (off := 2211) 2255 dL_law_44 (by decide) (by decide) (by decide +kernel) (by decide) ?_
        exact lc_isInOrder hR hI hB2 hlg2 hM hz4 hLx (by omega) (by omega) kk

