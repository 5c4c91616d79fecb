set_option maxRecDepth 20000 in
set_option maxHeartbeats 1000000 in
theorem lc_addStation {cy : Nat → ClassId} {S : Nat → Nat → Nat} {I I2 : kI} {L L2 G : kL} {R R2 : kRf} {LP : List Nat} {m : Mu} {rc : Nat → Nat} {ln qu : List Nat} {lg B : Nat} {cd : Int32} {b Lx z cells slots : Nat} {xs : Nat → Int32} {p1 p2 : Int32} (hR : Rel m I L R LP rc ln qu lg) (hI : Inv m B) (hB : B + 100000 < 2 ^ 30) (hlg : lg < 2 ^ 30) (hM : MR m cd I2 L2) (hz : z + 4 < Lx) (hLx : Lx ≤ 2560) (hcl : cells + 101 ≤ 603072) (hsl : slots + 1307 ≤ 7186538) (e1 : xs (z + 1) = p1) (e2 : xs (z + 2) = p2) (kk : ∀ (m' : Mu) (B' : Nat) (w9 : va_W) (I2 : kI) (L2 : kL) (cd : Int32) (G : kL) (c' s' : Nat), (∃ LP rc, RelX cy S LP rc m' w9) → Inv m' B' → B' ≤ B + 90000 → MR m' cd I2 L2 → c' ≤ cells + 100 → s' ≤ slots + 1300 → JG RL cL_law 9 cy room_1 (ExL b Lx xs) FinL 2268 [(0, .ref b), (1, .ref (ka S 0 0)), (2, .ref (ka S 30 0)), (3, .ref (ka S 80 0)), (4, .ref (ka S 81 0)), (5, .int (nI z))] [] (wm cy S I2 L2 R2 ++ (w9 ++ wlo cy S G)) c' s') : JG RL cL_law 9 cy room_1 (ExL b Lx xs) FinL 212 [(0, .ref b), (1, .ref (ka S 0 0)), (2, .ref (ka S 30 0)), (3, .ref (ka S 80 0)), (4, .ref (ka S 81 0)), (5, .int (nI z))] [] (wm cy S I2 L2 R2 ++ (wc cy S I L R LP ++ wlo cy S G)) cells slots := by
  have hl31 : lg < 2 ^ 31 := by omega
  by_cases hp : 0 ≤ p1 ∧ p1 ≤ 300
  · skip
    by_cases hr : 1 ≤ p2 ∧ p2 ≤ 100
    · skip
      by_cases h9 : mS m < 10
      · skip
        refine JG_aload_n 1 rfl dL_law_212 ?_
        refine JG_aload_n 0 rfl dL_law_213 ?_
        refine JG_iload 5 rfl dL_law_214 ?_
        refine JG_iconst (v := 1) (by decide) dL_law_216 ?_
        refine JG_iadd dL_law_217 ?_
        refine JG_topeq (nI (z + 1)) (by exact nI_add z 1) ?_
        refine JG_sld (vp_in_nI (by omega) (by omega)) dL_law_218 ?_
        refine JG_topeq p1 (by rw [nI_toNat (by omega)]; exact e1) ?_
        refine JG_aload_n 0 rfl dL_law_219 ?_
        refine JG_iload 5 rfl dL_law_220 ?_
        refine JG_iconst (v := 2) (by decide) dL_law_222 ?_
        refine JG_iadd dL_law_223 ?_
        refine JG_topeq (nI (z + 2)) (by exact nI_add z 2) ?_
        refine JG_sld (vp_in_nI (by omega) (by omega)) dL_law_224 ?_
        refine JG_topeq p2 (by rw [nI_toNat (by omega)]; exact e2) ?_
        refine JG_aload_n 3 rfl dL_law_225 ?_
        refine JG_callH (As := [.ref (ka S 0 0), .int p1, .int p2, .ref (ka S 80 0)]) (rest := []) (wm cy S I2 L2 R2) [] dL_law_226 (w_addStation_s  (c_X7_addStation_s hR hI (by omega) hlg hp hr h9)) (by rw [List.append_nil]) lm_L_127 kw_L_addStation kiniL ks_L_addStation kdL_addStation ⟨Nat.le_of_ble_eq_true rfl, Nat.le_of_ble_eq_true rfl⟩ (by show cells + 0 ≤ 603072; omega) (by show slots + 0 ≤ 7186538; omega) (Nat.le_of_ble_eq_true rfl) (fun _ w8 r1 => ?_)
        obtain ⟨rfl, w9, hP, rfl⟩ := r1
        refine JG_eq (w' := wm cy S I2 L2 R2 ++ (w9 ++ wlo cy S (ku G 80 0 0 (nI (mS m)).toInt64))) (st' := [.int 0]) (by rw [List.append_nil]) rfl rfl ?_
        refine JG_istore (lv' := [(0, .ref b), (1, .ref (ka S 0 0)), (2, .ref (ka S 30 0)), (3, .ref (ka S 80 0)), (4, .ref (ka S 81 0)), (5, .int (nI z)), (6, .int 0)]) (by decide) rfl dL_law_229 ?_
        refine JG_aload_n 2 rfl dL_law_231 ?_
        refine JG_aload_n 0 rfl dL_law_232 ?_
        refine JG_iload 5 rfl dL_law_233 ?_
        refine JG_iconst (v := 1) (by decide) dL_law_235 ?_
        refine JG_iadd dL_law_236 ?_
        refine JG_topeq (nI (z + 1)) (by exact nI_add z 1) ?_
        refine JG_sld (vp_in_nI (by omega) (by omega)) dL_law_237 ?_
        refine JG_topeq p1 (by rw [nI_toNat (by omega)]; exact e1) ?_
        refine JG_aload_n 0 rfl dL_law_238 ?_
        refine JG_iload 5 rfl dL_law_239 ?_
        refine JG_iconst (v := 2) (by decide) dL_law_241 ?_
        refine JG_iadd dL_law_242 ?_
        refine JG_topeq (nI (z + 2)) (by exact nI_add z 2) ?_
        refine JG_sld (vp_in_nI (by omega) (by omega)) dL_law_243 ?_
        refine JG_topeq p2 (by rw [nI_toNat (by omega)]; exact e2) ?_
        refine JG_callX8 (As := [.int p1, .int p2]) (rest := []) [] (w9 ++ wlo cy S (ku G 80 0 0 (nI (mS m)).toInt64)) dL_law_244 (c_X8_addStation_s hM hR hI (by omega) hp hr h9) rfl rfl lm_L_132 kc_yX8_addStation ki_yX8_addStation kv_yX8_addStation kd_yX8_addStation ⟨Nat.le_of_ble_eq_true rfl, Nat.le_of_ble_eq_true rfl⟩ (by show (cells + 0) + 0 ≤ 603072; omega) (by show (slots + 0) + 0 ≤ 7186538; omega) (Nat.le_of_ble_eq_true rfl) (fun _ w8 r2 => ?_)
        obtain ⟨rfl, I3, L3, rfl, hM3⟩ := r2
        refine JG_eq (w' := wm cy S I3 L3 R2 ++ (w9 ++ wlo cy S (ku G 80 0 0 (nI (mS m)).toInt64))) (st' := [.int (nI (mS m))]) rfl rfl rfl ?_
        refine JG_istore (lv' := [(0, .ref b), (1, .ref (ka S 0 0)), (2, .ref (ka S 30 0)), (3, .ref (ka S 80 0)), (4, .ref (ka S 81 0)), (5, .int (nI z)), (6, .int 0), (7, .int (nI (mS m)))]) (by decide) rfl dL_law_247 ?_
        refine JG_aload_n 2 rfl dL_law_249 ?_
        refine JG_callX8 (As := []) (rest := []) [] (w9 ++ wlo cy S (ku G 80 0 0 (nI (mS m)).toInt64)) dL_law_250 (c_X8_thrown hM3) rfl rfl lm_L_133 kc_yX8_thrown ki_yX8_thrown kv_yX8_thrown kd_yX8_thrown ⟨Nat.le_of_ble_eq_true rfl, Nat.le_of_ble_eq_true rfl⟩ (by show ((cells + 0) + 0) + 0 ≤ 603072; omega) (by show ((slots + 0) + 0) + 0 ≤ 7186538; omega) (Nat.le_of_ble_eq_true rfl) (fun _ w8 r4 => ?_)
        obtain ⟨rfl, I5, L5, rfl, hM5⟩ := r4
        refine JG_eq (w' := wm cy S I5 L5 R2 ++ (w9 ++ wlo cy S (ku G 80 0 0 (nI (mS m)).toInt64))) (st' := [.int 0]) rfl rfl rfl ?_
        refine JG_iload 6 rfl dL_law_253 ?_
        refine JG_icmp_eq 260 (by decide) dL_law_255 (fun c6 => ?_) (fun c6 => ?_)
        rotate_left
        · exact absurd (by decide) c6
        refine JG_iload 6 rfl dL_law_260 ?_
        refine JG_if_ne 277 (by decide) dL_law_262 (fun c7 => ?_) (fun c7 => ?_)
        · exact absurd (by decide) c7
        refine JG_aload_n 3 rfl dL_law_265 ?_
        refine JG_iconst (v := 0) (by decide) dL_law_266 ?_
        refine JG_eq (w' := (wm cy S I5 L5 R2 ++ w9) ++ wlo cy S (ku G 80 0 0 (nI (mS m)).toInt64)) (List.append_assoc _ _ _).symm rfl rfl ?_
        refine JG_laldO dL_law_267 ?_
        refine JG_eq (w' := wm cy S I5 L5 R2 ++ (w9 ++ wlo cy S (ku G 80 0 0 (nI (mS m)).toInt64))) (st' := [.long (nI (mS m)).toInt64]) (List.append_assoc _ _ _) rfl (by rw [ku_eq]) ?_
        refine JG_iload 7 rfl dL_law_268 ?_
        refine JG_i2l dL_law_270 ?_
        refine JG_lcmp (rfl) dL_law_271 ?_
        refine JG_if_eq 277 (by decide) dL_law_272 (fun c8 => ?_) (fun c8 => ?_)
        rotate_left
        · exact absurd (by decide) c8
        refine JG_goto 2268 (by decide) dL_law_277 ?_
        refine JG_sub (lv' := [(0, .ref b), (1, .ref (ka S 0 0)), (2, .ref (ka S 30 0)), (3, .ref (ka S 80 0)), (4, .ref (ka S 81 0)), (5, .int (nI z))]) [0, 1, 2, 3, 4, 5] rfl ?_
        exact kk (mSpeak (adM m p1 p2)) _ _ _ _ _ _ _ _ ⟨LP, rc, hP⟩ (speak_inv (inv_ad hR.1 hI h9 hp) (by omega)) (by omega) hM5 (by omega) (by omega)
      · skip
        refine JG_aload_n 1 rfl dL_law_212 ?_
        refine JG_aload_n 0 rfl dL_law_213 ?_
        refine JG_iload 5 rfl dL_law_214 ?_
        refine JG_iconst (v := 1) (by decide) dL_law_216 ?_
        refine JG_iadd dL_law_217 ?_
        refine JG_topeq (nI (z + 1)) (by exact nI_add z 1) ?_
        refine JG_sld (vp_in_nI (by omega) (by omega)) dL_law_218 ?_
        refine JG_topeq p1 (by rw [nI_toNat (by omega)]; exact e1) ?_
        refine JG_aload_n 0 rfl dL_law_219 ?_
        refine JG_iload 5 rfl dL_law_220 ?_
        refine JG_iconst (v := 2) (by decide) dL_law_222 ?_
        refine JG_iadd dL_law_223 ?_
        refine JG_topeq (nI (z + 2)) (by exact nI_add z 2) ?_
        refine JG_sld (vp_in_nI (by omega) (by omega)) dL_law_224 ?_
        refine JG_topeq p2 (by rw [nI_toNat (by omega)]; exact e2) ?_
        refine JG_aload_n 3 rfl dL_law_225 ?_
        refine JG_callH (As := [.ref (ka S 0 0), .int p1, .int p2, .ref (ka S 80 0)]) (rest := []) (wm cy S I2 L2 R2) [] dL_law_226 (w_addStation_2 (c_X7_addStation_y hR hI (by omega) hlg hp hr h9)) (by rw [List.append_nil]) lm_L_127 kw_L_addStation kiniL ks_L_addStation kdL_addStation ⟨Nat.le_of_ble_eq_true rfl, Nat.le_of_ble_eq_true rfl⟩ (by show cells + 1 ≤ 603072; omega) (by show slots + 6 ≤ 7186538; omega) (Nat.le_of_ble_eq_true rfl) (fun _ w8 r1 => ?_)
        obtain ⟨rfl, w9, hP, rfl⟩ := r1
        refine JG_eq (w' := wm cy S I2 L2 R2 ++ (w9 ++ wlo cy S G)) (st' := [.int 2]) (by rw [List.append_nil]) rfl rfl ?_
        refine JG_istore (lv' := [(0, .ref b), (1, .ref (ka S 0 0)), (2, .ref (ka S 30 0)), (3, .ref (ka S 80 0)), (4, .ref (ka S 81 0)), (5, .int (nI z)), (6, .int 2)]) (by decide) rfl dL_law_229 ?_
        refine JG_aload_n 2 rfl dL_law_231 ?_
        refine JG_aload_n 0 rfl dL_law_232 ?_
        refine JG_iload 5 rfl dL_law_233 ?_
        refine JG_iconst (v := 1) (by decide) dL_law_235 ?_
        refine JG_iadd dL_law_236 ?_
        refine JG_topeq (nI (z + 1)) (by exact nI_add z 1) ?_
        refine JG_sld (vp_in_nI (by omega) (by omega)) dL_law_237 ?_
        refine JG_topeq p1 (by rw [nI_toNat (by omega)]; exact e1) ?_
        refine JG_aload_n 0 rfl dL_law_238 ?_
        refine JG_iload 5 rfl dL_law_239 ?_
        refine JG_iconst (v := 2) (by decide) dL_law_241 ?_
        refine JG_iadd dL_law_242 ?_
        refine JG_topeq (nI (z + 2)) (by exact nI_add z 2) ?_
        refine JG_sld (vp_in_nI (by omega) (by omega)) dL_law_243 ?_
        refine JG_topeq p2 (by rw [nI_toNat (by omega)]; exact e2) ?_
        refine JG_callX8 (As := [.int p1, .int p2]) (rest := []) [] (w9 ++ wlo cy S G) dL_law_244 (c_X8_addStation_y hM hR hI (by omega) hp hr h9) rfl rfl lm_L_132 kc_yX8_addStation ki_yX8_addStation kv_yX8_addStation kd_yX8_addStation ⟨Nat.le_of_ble_eq_true rfl, Nat.le_of_ble_eq_true rfl⟩ (by show (cells + 1) + 0 ≤ 603072; omega) (by show (slots + 6) + 0 ≤ 7186538; omega) (Nat.le_of_ble_eq_true rfl) (fun _ w8 r2 => ?_)
        obtain ⟨rfl, I3, L3, rfl, hM3⟩ := r2
        refine JG_eq (w' := wm cy S I3 L3 R2 ++ (w9 ++ wlo cy S G)) (st' := [.int 0]) rfl rfl rfl ?_
        refine JG_istore (lv' := [(0, .ref b), (1, .ref (ka S 0 0)), (2, .ref (ka S 30 0)), (3, .ref (ka S 80 0)), (4, .ref (ka S 81 0)), (5, .int (nI z)), (6, .int 2), (7, .int 0)]) (by decide) rfl dL_law_247 ?_
        refine JG_aload_n 2 rfl dL_law_249 ?_
        refine JG_callX8 (As := []) (rest := []) [] (w9 ++ wlo cy S G) dL_law_250 (c_X8_thrown hM3) rfl rfl lm_L_133 kc_yX8_thrown ki_yX8_thrown kv_yX8_thrown kd_yX8_thrown ⟨Nat.le_of_ble_eq_true rfl, Nat.le_of_ble_eq_true rfl⟩ (by show ((cells + 1) + 0) + 0 ≤ 603072; omega) (by show ((slots + 6) + 0) + 0 ≤ 7186538; omega) (Nat.le_of_ble_eq_true rfl) (fun _ w8 r4 => ?_)
        obtain ⟨rfl, I5, L5, rfl, hM5⟩ := r4
        refine JG_eq (w' := wm cy S I5 L5 R2 ++ (w9 ++ wlo cy S G)) (st' := [.int 2]) rfl rfl rfl ?_
        refine JG_iload 6 rfl dL_law_253 ?_
        refine JG_icmp_eq 260 (by decide) dL_law_255 (fun c6 => ?_) (fun c6 => ?_)
        rotate_left
        · exact absurd (by decide) c6
        refine JG_iload 6 rfl dL_law_260 ?_
        refine JG_if_ne 277 (by decide) dL_law_262 (fun c7 => ?_) (fun c7 => ?_)
        rotate_left
        · exact absurd c7 (by decide)
        refine JG_goto 2268 (by decide) dL_law_277 ?_
        refine JG_sub (lv' := [(0, .ref b), (1, .ref (ka S 0 0)), (2, .ref (ka S 30 0)), (3, .ref (ka S 80 0)), (4, .ref (ka S 81 0)), (5, .int (nI z))]) [0, 1, 2, 3, 4, 5] rfl ?_
        exact kk m _ _ _ _ _ _ _ _ ⟨LP, rc, hP⟩ hI (by omega) hM5 (by omega) (by omega)
    · skip
      refine JG_aload_n 1 rfl dL_law_212 ?_
      refine JG_aload_n 0 rfl dL_law_213 ?_
      refine JG_iload 5 rfl dL_law_214 ?_
      refine JG_iconst (v := 1) (by decide) dL_law_216 ?_
      refine JG_iadd dL_law_217 ?_
      refine JG_topeq (nI (z + 1)) (by exact nI_add z 1) ?_
      refine JG_sld (vp_in_nI (by omega) (by omega)) dL_law_218 ?_
      refine JG_topeq p1 (by rw [nI_toNat (by omega)]; exact e1) ?_
      refine JG_aload_n 0 rfl dL_law_219 ?_
      refine JG_iload 5 rfl dL_law_220 ?_
      refine JG_iconst (v := 2) (by decide) dL_law_222 ?_
      refine JG_iadd dL_law_223 ?_
      refine JG_topeq (nI (z + 2)) (by exact nI_add z 2) ?_
      refine JG_sld (vp_in_nI (by omega) (by omega)) dL_law_224 ?_
      refine JG_topeq p2 (by rw [nI_toNat (by omega)]; exact e2) ?_
      refine JG_aload_n 3 rfl dL_law_225 ?_
      refine JG_callH (As := [.ref (ka S 0 0), .int p1, .int p2, .ref (ka S 80 0)]) (rest := []) (wm cy S I2 L2 R2) [] dL_law_226 (w_addStation_1 (c_X7_addStation_z hR hI (by omega) hlg hp hr)) (by rw [List.append_nil]) lm_L_127 kw_L_addStation kiniL ks_L_addStation kdL_addStation ⟨Nat.le_of_ble_eq_true rfl, Nat.le_of_ble_eq_true rfl⟩ (by show cells + 1 ≤ 603072; omega) (by show slots + 6 ≤ 7186538; omega) (Nat.le_of_ble_eq_true rfl) (fun _ w8 r1 => ?_)
      obtain ⟨rfl, w9, hP, rfl⟩ := r1
      refine JG_eq (w' := wm cy S I2 L2 R2 ++ (w9 ++ wlo cy S G)) (st' := [.int 1]) (by rw [List.append_nil]) rfl rfl ?_
      refine JG_istore (lv' := [(0, .ref b), (1, .ref (ka S 0 0)), (2, .ref (ka S 30 0)), (3, .ref (ka S 80 0)), (4, .ref (ka S 81 0)), (5, .int (nI z)), (6, .int 1)]) (by decide) rfl dL_law_229 ?_
      refine JG_aload_n 2 rfl dL_law_231 ?_
      refine JG_aload_n 0 rfl dL_law_232 ?_
      refine JG_iload 5 rfl dL_law_233 ?_
      refine JG_iconst (v := 1) (by decide) dL_law_235 ?_
      refine JG_iadd dL_law_236 ?_
      refine JG_topeq (nI (z + 1)) (by exact nI_add z 1) ?_
      refine JG_sld (vp_in_nI (by omega) (by omega)) dL_law_237 ?_
      refine JG_topeq p1 (by rw [nI_toNat (by omega)]; exact e1) ?_
      refine JG_aload_n 0 rfl dL_law_238 ?_
      refine JG_iload 5 rfl dL_law_239 ?_
      refine JG_iconst (v := 2) (by decide) dL_law_241 ?_
      refine JG_iadd dL_law_242 ?_
      refine JG_topeq (nI (z + 2)) (by exact nI_add z 2) ?_
      refine JG_sld (vp_in_nI (by omega) (by omega)) dL_law_243 ?_
      refine JG_topeq p2 (by rw [nI_toNat (by omega)]; exact e2) ?_
      refine JG_callX8 (As := [.int p1, .int p2]) (rest := []) [] (w9 ++ wlo cy S G) dL_law_244 (c_X8_addStation_z hM hR hI (by omega) hp hr) rfl rfl lm_L_132 kc_yX8_addStation ki_yX8_addStation kv_yX8_addStation kd_yX8_addStation ⟨Nat.le_of_ble_eq_true rfl, Nat.le_of_ble_eq_true rfl⟩ (by show (cells + 1) + 0 ≤ 603072; omega) (by show (slots + 6) + 0 ≤ 7186538; omega) (Nat.le_of_ble_eq_true rfl) (fun _ w8 r2 => ?_)
      obtain ⟨rfl, I3, L3, rfl, hM3⟩ := r2
      refine JG_eq (w' := wm cy S I3 L3 R2 ++ (w9 ++ wlo cy S G)) (st' := [.int 0]) rfl rfl rfl ?_
      refine JG_istore (lv' := [(0, .ref b), (1, .ref (ka S 0 0)), (2, .ref (ka S 30 0)), (3, .ref (ka S 80 0)), (4, .ref (ka S 81 0)), (5, .int (nI z)), (6, .int 1), (7, .int 0)]) (by decide) rfl dL_law_247 ?_
      refine JG_aload_n 2 rfl dL_law_249 ?_
      refine JG_callX8 (As := []) (rest := []) [] (w9 ++ wlo cy S G) dL_law_250 (c_X8_thrown hM3) rfl rfl lm_L_133 kc_yX8_thrown ki_yX8_thrown kv_yX8_thrown kd_yX8_thrown ⟨Nat.le_of_ble_eq_true rfl, Nat.le_of_ble_eq_true rfl⟩ (by show ((cells + 1) + 0) + 0 ≤ 603072; omega) (by show ((slots + 6) + 0) + 0 ≤ 7186538; omega) (Nat.le_of_ble_eq_true rfl) (fun _ w8 r4 => ?_)
      obtain ⟨rfl, I5, L5, rfl, hM5⟩ := r4
      refine JG_eq (w' := wm cy S I5 L5 R2 ++ (w9 ++ wlo cy S G)) (st' := [.int 1]) rfl rfl rfl ?_
      refine JG_iload 6 rfl dL_law_253 ?_
      refine JG_icmp_eq 260 (by decide) dL_law_255 (fun c6 => ?_) (fun c6 => ?_)
      rotate_left
      · exact absurd (by decide) c6
      refine JG_iload 6 rfl dL_law_260 ?_
      refine JG_if_ne 277 (by decide) dL_law_262 (fun c7 => ?_) (fun c7 => ?_)
      rotate_left
      · exact absurd c7 (by decide)
      refine JG_goto 2268 (by decide) dL_law_277 ?_
      refine JG_sub (lv' := [(0, .ref b), (1, .ref (ka S 0 0)), (2, .ref (ka S 30 0)), (3, .ref (ka S 80 0)), (4, .ref (ka S 81 0)), (5, .int (nI z))]) [0, 1, 2, 3, 4, 5] rfl ?_
      exact kk m _ _ _ _ _ _ _ _ ⟨LP, rc, hP⟩ hI (by omega) hM5 (by omega) (by omega)
  · skip
    refine JG_aload_n 1 rfl dL_law_212 ?_
    refine JG_aload_n 0 rfl dL_law_213 ?_
    refine JG_iload 5 rfl dL_law_214 ?_
    refine JG_iconst (v := 1) (by decide) dL_law_216 ?_
    refine JG_iadd dL_law_217 ?_
    refine JG_topeq (nI (z + 1)) (by exact nI_add z 1) ?_
    refine JG_sld (vp_in_nI (by omega) (by omega)) dL_law_218 ?_
    refine JG_topeq p1 (by rw [nI_toNat (by omega)]; exact e1) ?_
    refine JG_aload_n 0 rfl dL_law_219 ?_
    refine JG_iload 5 rfl dL_law_220 ?_
    refine JG_iconst (v := 2) (by decide) dL_law_222 ?_
    refine JG_iadd dL_law_223 ?_
    refine JG_topeq (nI (z + 2)) (by exact nI_add z 2) ?_
    refine JG_sld (vp_in_nI (by omega) (by omega)) dL_law_224 ?_
    refine JG_topeq p2 (by rw [nI_toNat (by omega)]; exact e2) ?_
    refine JG_aload_n 3 rfl dL_law_225 ?_
    refine JG_callH (As := [.ref (ka S 0 0), .int p1, .int p2, .ref (ka S 80 0)]) (rest := []) (wm cy S I2 L2 R2) [] dL_law_226 (w_addStation_1 (c_X7_addStation_x hR hI (by omega) hlg hp)) (by rw [List.append_nil]) lm_L_127 kw_L_addStation kiniL ks_L_addStation kdL_addStation ⟨Nat.le_of_ble_eq_true rfl, Nat.le_of_ble_eq_true rfl⟩ (by show cells + 1 ≤ 603072; omega) (by show slots + 6 ≤ 7186538; omega) (Nat.le_of_ble_eq_true rfl) (fun _ w8 r1 => ?_)
    obtain ⟨rfl, w9, hP, rfl⟩ := r1
    refine JG_eq (w' := wm cy S I2 L2 R2 ++ (w9 ++ wlo cy S G)) (st' := [.int 1]) (by rw [List.append_nil]) rfl rfl ?_
    refine JG_istore (lv' := [(0, .ref b), (1, .ref (ka S 0 0)), (2, .ref (ka S 30 0)), (3, .ref (ka S 80 0)), (4, .ref (ka S 81 0)), (5, .int (nI z)), (6, .int 1)]) (by decide) rfl dL_law_229 ?_
    refine JG_aload_n 2 rfl dL_law_231 ?_
    refine JG_aload_n 0 rfl dL_law_232 ?_
    refine JG_iload 5 rfl dL_law_233 ?_
    refine JG_iconst (v := 1) (by decide) dL_law_235 ?_
    refine JG_iadd dL_law_236 ?_
    refine JG_topeq (nI (z + 1)) (by exact nI_add z 1) ?_
    refine JG_sld (vp_in_nI (by omega) (by omega)) dL_law_237 ?_
    refine JG_topeq p1 (by rw [nI_toNat (by omega)]; exact e1) ?_
    refine JG_aload_n 0 rfl dL_law_238 ?_
    refine JG_iload 5 rfl dL_law_239 ?_
    refine JG_iconst (v := 2) (by decide) dL_law_241 ?_
    refine JG_iadd dL_law_242 ?_
    refine JG_topeq (nI (z + 2)) (by exact nI_add z 2) ?_
    refine JG_sld (vp_in_nI (by omega) (by omega)) dL_law_243 ?_
    refine JG_topeq p2 (by rw [nI_toNat (by omega)]; exact e2) ?_
    refine JG_callX8 (As := [.int p1, .int p2]) (rest := []) [] (w9 ++ wlo cy S G) dL_law_244 (c_X8_addStation_x hM hR hI (by omega) hp) rfl rfl lm_L_132 kc_yX8_addStation ki_yX8_addStation kv_yX8_addStation kd_yX8_addStation ⟨Nat.le_of_ble_eq_true rfl, Nat.le_of_ble_eq_true rfl⟩ (by show (cells + 1) + 0 ≤ 603072; omega) (by show (slots + 6) + 0 ≤ 7186538; omega) (Nat.le_of_ble_eq_true rfl) (fun _ w8 r2 => ?_)
    obtain ⟨rfl, I3, L3, rfl, hM3⟩ := r2
    refine JG_eq (w' := wm cy S I3 L3 R2 ++ (w9 ++ wlo cy S G)) (st' := [.int 0]) rfl rfl rfl ?_
    refine JG_istore (lv' := [(0, .ref b), (1, .ref (ka S 0 0)), (2, .ref (ka S 30 0)), (3, .ref (ka S 80 0)), (4, .ref (ka S 81 0)), (5, .int (nI z)), (6, .int 1), (7, .int 0)]) (by decide) rfl dL_law_247 ?_
    refine JG_aload_n 2 rfl dL_law_249 ?_
    refine JG_callX8 (As := []) (rest := []) [] (w9 ++ wlo cy S G) dL_law_250 (c_X8_thrown hM3) rfl rfl lm_L_133 kc_yX8_thrown ki_yX8_thrown kv_yX8_thrown kd_yX8_thrown ⟨Nat.le_of_ble_eq_true rfl, Nat.le_of_ble_eq_true rfl⟩ (by show ((cells + 1) + 0) + 0 ≤ 603072; omega) (by show ((slots + 6) + 0) + 0 ≤ 7186538; omega) (Nat.le_of_ble_eq_true rfl) (fun _ w8 r4 => ?_)
    obtain ⟨rfl, I5, L5, rfl, hM5⟩ := r4
    refine JG_eq (w' := wm cy S I5 L5 R2 ++ (w9 ++ wlo cy S G)) (st' := [.int 1]) rfl rfl rfl ?_
    refine JG_iload 6 rfl dL_law_253 ?_
    refine JG_icmp_eq 260 (by decide) dL_law_255 (fun c6 => ?_) (fun c6 => ?_)
    rotate_left
    · exact absurd (by decide) c6
    refine JG_iload 6 rfl dL_law_260 ?_
    refine JG_if_ne 277 (by decide) dL_law_262 (fun c7 => ?_) (fun c7 => ?_)
    rotate_left
    · exact absurd c7 (by decide)
    refine JG_goto 2268 (by decide) dL_law_277 ?_
    refine JG_sub (lv' := [(0, .ref b), (1, .ref (ka S 0 0)), (2, .ref (ka S 30 0)), (3, .ref (ka S 80 0)), (4, .ref (ka S 81 0)), (5, .int (nI z))]) [0, 1, 2, 3, 4, 5] rfl ?_
    exact kk m _ _ _ _ _ _ _ _ ⟨LP, rc, hP⟩ hI (by omega) hM5 (by omega) (by omega)

set_option maxRecDepth 20000 in
set_option maxHeartbeats 1000000 in
theorem lc_move {cy : Nat → ClassId} {S : Nat → Nat → Nat} {I I2 : kI} {L L2 G : kL} {R R2 : kRf} {LP : List Nat} {m : Mu} {rc : Nat → Nat} {ln qu : List Nat} {lg B : Nat} {cd : Int32} {b Lx z cells slots : Nat} {xs : Nat → Int32} {p1 p2 : Int32} (hR : Rel m I L R LP rc ln qu lg) (hI : Inv m B) (hB : B + 100000 < 2 ^ 30) (hlg : lg < 2 ^ 30) (hM : MR m cd I2 L2) (hz : z + 4 < Lx) (hLx : Lx ≤ 2560) (hcl : cells + 101 ≤ 603072) (hsl : slots + 1307 ≤ 7186538) (e1 : xs (z + 1) = p1) (e2 : xs (z + 2) = p2) (kk : ∀ (m' : Mu) (B' : Nat) (w9 : va_W) (I2 : kI) (L2 : kL) (cd : Int32) (G : kL) (c' s' : Nat), (∃ LP rc, RelX cy S LP rc m' w9) → Inv m' B' → B' ≤ B + 90000 → MR m' cd I2 L2 → c' ≤ cells + 100 → s' ≤ slots + 1300 → JG RL cL_law 9 cy room_1 (ExL b Lx xs) FinL 2268 [(0, .ref b), (1, .ref (ka S 0 0)), (2, .ref (ka S 30 0)), (3, .ref (ka S 80 0)), (4, .ref (ka S 81 0)), (5, .int (nI z))] [] (wm cy S I2 L2 R2 ++ (w9 ++ wlo cy S G)) c' s') : JG RL cL_law 9 cy room_1 (ExL b Lx xs) FinL 280 [(0, .ref b), (1, .ref (ka S 0 0)), (2, .ref (ka S 30 0)), (3, .ref (ka S 80 0)), (4, .ref (ka S 81 0)), (5, .int (nI z))] [] (wm cy S I2 L2 R2 ++ (wc cy S I L R LP ++ wlo cy S G)) cells slots := by
  have hl31 : lg < 2 ^ 31 := by omega
  rcases lt_or (mS m) p1 with ⟨s, hs, rfl⟩ | hx
  · skip
    by_cases hp : 0 ≤ p2 ∧ p2 ≤ 300
    · skip
      refine JG_aload_n 1 rfl dL_law_280 ?_
      refine JG_aload_n 0 rfl dL_law_281 ?_
      refine JG_iload 5 rfl dL_law_282 ?_
      refine JG_iconst (v := 1) (by decide) dL_law_284 ?_
      refine JG_iadd dL_law_285 ?_
      refine JG_topeq (nI (z + 1)) (by exact nI_add z 1) ?_
      refine JG_sld (vp_in_nI (by omega) (by omega)) dL_law_286 ?_
      refine JG_topeq (nI s) (by rw [nI_toNat (by omega)]; exact e1) ?_
      refine JG_aload_n 0 rfl dL_law_287 ?_
      refine JG_iload 5 rfl dL_law_288 ?_
      refine JG_iconst (v := 2) (by decide) dL_law_290 ?_
      refine JG_iadd dL_law_291 ?_
      refine JG_topeq (nI (z + 2)) (by exact nI_add z 2) ?_
      refine JG_sld (vp_in_nI (by omega) (by omega)) dL_law_292 ?_
      refine JG_topeq p2 (by rw [nI_toNat (by omega)]; exact e2) ?_
      refine JG_aload_n 3 rfl dL_law_293 ?_
      refine JG_callH (As := [.ref (ka S 0 0), .int (nI s), .int p2, .ref (ka S 80 0)]) (rest := []) (wm cy S I2 L2 R2) [] dL_law_294 (w_move_s  (c_X7_move_s hR hI (by omega) hlg hs hp)) (by rw [List.append_nil]) lm_L_137 kw_L_move kiniL ks_L_move kdL_move ⟨Nat.le_of_ble_eq_true rfl, Nat.le_of_ble_eq_true rfl⟩ (by show cells + 0 ≤ 603072; omega) (by show slots + 0 ≤ 7186538; omega) (Nat.le_of_ble_eq_true rfl) (fun _ w8 r1 => ?_)
      obtain ⟨rfl, w9, hP, rfl⟩ := r1
      refine JG_eq (w' := wm cy S I2 L2 R2 ++ (w9 ++ wlo cy S (ku G 80 0 0 (m.1 41 s).toInt64))) (st' := [.int 0]) (by rw [List.append_nil]) rfl rfl ?_
      refine JG_istore (lv' := [(0, .ref b), (1, .ref (ka S 0 0)), (2, .ref (ka S 30 0)), (3, .ref (ka S 80 0)), (4, .ref (ka S 81 0)), (5, .int (nI z)), (6, .int 0)]) (by decide) rfl dL_law_297 ?_
      refine JG_aload_n 2 rfl dL_law_299 ?_
      refine JG_aload_n 0 rfl dL_law_300 ?_
      refine JG_iload 5 rfl dL_law_301 ?_
      refine JG_iconst (v := 1) (by decide) dL_law_303 ?_
      refine JG_iadd dL_law_304 ?_
      refine JG_topeq (nI (z + 1)) (by exact nI_add z 1) ?_
      refine JG_sld (vp_in_nI (by omega) (by omega)) dL_law_305 ?_
      refine JG_topeq (nI s) (by rw [nI_toNat (by omega)]; exact e1) ?_
      refine JG_aload_n 0 rfl dL_law_306 ?_
      refine JG_iload 5 rfl dL_law_307 ?_
      refine JG_iconst (v := 2) (by decide) dL_law_309 ?_
      refine JG_iadd dL_law_310 ?_
      refine JG_topeq (nI (z + 2)) (by exact nI_add z 2) ?_
      refine JG_sld (vp_in_nI (by omega) (by omega)) dL_law_311 ?_
      refine JG_topeq p2 (by rw [nI_toNat (by omega)]; exact e2) ?_
      refine JG_callX8 (As := [.int (nI s), .int p2]) (rest := []) [] (w9 ++ wlo cy S (ku G 80 0 0 (m.1 41 s).toInt64)) dL_law_312 (c_X8_move_s hM hR hI (by omega) hs hp) rfl rfl lm_L_139 kc_yX8_move ki_yX8_move kv_yX8_move kd_yX8_move ⟨Nat.le_of_ble_eq_true rfl, Nat.le_of_ble_eq_true rfl⟩ (by show (cells + 0) + 0 ≤ 603072; omega) (by show (slots + 0) + 0 ≤ 7186538; omega) (Nat.le_of_ble_eq_true rfl) (fun _ w8 r2 => ?_)
      obtain ⟨rfl, I3, L3, rfl, hM3⟩ := r2
      refine JG_eq (w' := wm cy S I3 L3 R2 ++ (w9 ++ wlo cy S (ku G 80 0 0 (m.1 41 s).toInt64))) (st' := [.int (m.1 41 s)]) rfl rfl rfl ?_
      refine JG_istore (lv' := [(0, .ref b), (1, .ref (ka S 0 0)), (2, .ref (ka S 30 0)), (3, .ref (ka S 80 0)), (4, .ref (ka S 81 0)), (5, .int (nI z)), (6, .int 0), (7, .int (m.1 41 s))]) (by decide) rfl dL_law_315 ?_
      refine JG_aload_n 2 rfl dL_law_317 ?_
      refine JG_callX8 (As := []) (rest := []) [] (w9 ++ wlo cy S (ku G 80 0 0 (m.1 41 s).toInt64)) dL_law_318 (c_X8_thrown hM3) rfl rfl lm_L_133 kc_yX8_thrown ki_yX8_thrown kv_yX8_thrown kd_yX8_thrown ⟨Nat.le_of_ble_eq_true rfl, Nat.le_of_ble_eq_true rfl⟩ (by show ((cells + 0) + 0) + 0 ≤ 603072; omega) (by show ((slots + 0) + 0) + 0 ≤ 7186538; omega) (Nat.le_of_ble_eq_true rfl) (fun _ w8 r4 => ?_)
      obtain ⟨rfl, I5, L5, rfl, hM5⟩ := r4
      refine JG_eq (w' := wm cy S I5 L5 R2 ++ (w9 ++ wlo cy S (ku G 80 0 0 (m.1 41 s).toInt64))) (st' := [.int 0]) rfl rfl rfl ?_
      refine JG_iload 6 rfl dL_law_321 ?_
      refine JG_icmp_eq 328 (by decide) dL_law_323 (fun c6 => ?_) (fun c6 => ?_)
      rotate_left
      · exact absurd (by decide) c6
      refine JG_iload 6 rfl dL_law_328 ?_
      refine JG_if_ne 345 (by decide) dL_law_330 (fun c7 => ?_) (fun c7 => ?_)
      · exact absurd (by decide) c7
      refine JG_aload_n 3 rfl dL_law_333 ?_
      refine JG_iconst (v := 0) (by decide) dL_law_334 ?_
      refine JG_eq (w' := (wm cy S I5 L5 R2 ++ w9) ++ wlo cy S (ku G 80 0 0 (m.1 41 s).toInt64)) (List.append_assoc _ _ _).symm rfl rfl ?_
      refine JG_laldO dL_law_335 ?_
      refine JG_eq (w' := wm cy S I5 L5 R2 ++ (w9 ++ wlo cy S (ku G 80 0 0 (m.1 41 s).toInt64))) (st' := [.long (m.1 41 s).toInt64]) (List.append_assoc _ _ _) rfl (by rw [ku_eq]) ?_
      refine JG_iload 7 rfl dL_law_336 ?_
      refine JG_i2l dL_law_338 ?_
      refine JG_lcmp (rfl) dL_law_339 ?_
      refine JG_if_eq 345 (by decide) dL_law_340 (fun c8 => ?_) (fun c8 => ?_)
      rotate_left
      · exact absurd (by decide) c8
      refine JG_goto 2268 (by decide) dL_law_345 ?_
      refine JG_sub (lv' := [(0, .ref b), (1, .ref (ka S 0 0)), (2, .ref (ka S 30 0)), (3, .ref (ka S 80 0)), (4, .ref (ka S 81 0)), (5, .int (nI z))]) [0, 1, 2, 3, 4, 5] rfl ?_
      exact kk (mSpeak (mvM m s p2)) _ _ _ _ _ _ _ _ ⟨LP, rc, hP⟩ (speak_inv (inv_mv hI hp) (by omega)) (by omega) hM5 (by omega) (by omega)
    · skip
      refine JG_aload_n 1 rfl dL_law_280 ?_
      refine JG_aload_n 0 rfl dL_law_281 ?_
      refine JG_iload 5 rfl dL_law_282 ?_
      refine JG_iconst (v := 1) (by decide) dL_law_284 ?_
      refine JG_iadd dL_law_285 ?_
      refine JG_topeq (nI (z + 1)) (by exact nI_add z 1) ?_
      refine JG_sld (vp_in_nI (by omega) (by omega)) dL_law_286 ?_
      refine JG_topeq (nI s) (by rw [nI_toNat (by omega)]; exact e1) ?_
      refine JG_aload_n 0 rfl dL_law_287 ?_
      refine JG_iload 5 rfl dL_law_288 ?_
      refine JG_iconst (v := 2) (by decide) dL_law_290 ?_
      refine JG_iadd dL_law_291 ?_
      refine JG_topeq (nI (z + 2)) (by exact nI_add z 2) ?_
      refine JG_sld (vp_in_nI (by omega) (by omega)) dL_law_292 ?_
      refine JG_topeq p2 (by rw [nI_toNat (by omega)]; exact e2) ?_
      refine JG_aload_n 3 rfl dL_law_293 ?_
      refine JG_callH (As := [.ref (ka S 0 0), .int (nI s), .int p2, .ref (ka S 80 0)]) (rest := []) (wm cy S I2 L2 R2) [] dL_law_294 (w_move_2 (c_X7_move_y hR hI (by omega) hlg hs hp)) (by rw [List.append_nil]) lm_L_137 kw_L_move kiniL ks_L_move kdL_move ⟨Nat.le_of_ble_eq_true rfl, Nat.le_of_ble_eq_true rfl⟩ (by show cells + 1 ≤ 603072; omega) (by show slots + 6 ≤ 7186538; omega) (Nat.le_of_ble_eq_true rfl) (fun _ w8 r1 => ?_)
      obtain ⟨rfl, w9, hP, rfl⟩ := r1
      refine JG_eq (w' := wm cy S I2 L2 R2 ++ (w9 ++ wlo cy S G)) (st' := [.int 2]) (by rw [List.append_nil]) rfl rfl ?_
      refine JG_istore (lv' := [(0, .ref b), (1, .ref (ka S 0 0)), (2, .ref (ka S 30 0)), (3, .ref (ka S 80 0)), (4, .ref (ka S 81 0)), (5, .int (nI z)), (6, .int 2)]) (by decide) rfl dL_law_297 ?_
      refine JG_aload_n 2 rfl dL_law_299 ?_
      refine JG_aload_n 0 rfl dL_law_300 ?_
      refine JG_iload 5 rfl dL_law_301 ?_
      refine JG_iconst (v := 1) (by decide) dL_law_303 ?_
      refine JG_iadd dL_law_304 ?_
      refine JG_topeq (nI (z + 1)) (by exact nI_add z 1) ?_
      refine JG_sld (vp_in_nI (by omega) (by omega)) dL_law_305 ?_
      refine JG_topeq (nI s) (by rw [nI_toNat (by omega)]; exact e1) ?_
      refine JG_aload_n 0 rfl dL_law_306 ?_
      refine JG_iload 5 rfl dL_law_307 ?_
      refine JG_iconst (v := 2) (by decide) dL_law_309 ?_
      refine JG_iadd dL_law_310 ?_
      refine JG_topeq (nI (z + 2)) (by exact nI_add z 2) ?_
      refine JG_sld (vp_in_nI (by omega) (by omega)) dL_law_311 ?_
      refine JG_topeq p2 (by rw [nI_toNat (by omega)]; exact e2) ?_
      refine JG_callX8 (As := [.int (nI s), .int p2]) (rest := []) [] (w9 ++ wlo cy S G) dL_law_312 (c_X8_move_y hM hR hI (by omega) hs hp) rfl rfl lm_L_139 kc_yX8_move ki_yX8_move kv_yX8_move kd_yX8_move ⟨Nat.le_of_ble_eq_true rfl, Nat.le_of_ble_eq_true rfl⟩ (by show (cells + 1) + 0 ≤ 603072; omega) (by show (slots + 6) + 0 ≤ 7186538; omega) (Nat.le_of_ble_eq_true rfl) (fun _ w8 r2 => ?_)
      obtain ⟨rfl, I3, L3, rfl, hM3⟩ := r2
      refine JG_eq (w' := wm cy S I3 L3 R2 ++ (w9 ++ wlo cy S G)) (st' := [.int 0]) rfl rfl rfl ?_
      refine JG_istore (lv' := [(0, .ref b), (1, .ref (ka S 0 0)), (2, .ref (ka S 30 0)), (3, .ref (ka S 80 0)), (4, .ref (ka S 81 0)), (5, .int (nI z)), (6, .int 2), (7, .int 0)]) (by decide) rfl dL_law_315 ?_
      refine JG_aload_n 2 rfl dL_law_317 ?_
      refine JG_callX8 (As := []) (rest := []) [] (w9 ++ wlo cy S G) dL_law_318 (c_X8_thrown hM3) rfl rfl lm_L_133 kc_yX8_thrown ki_yX8_thrown kv_yX8_thrown kd_yX8_thrown ⟨Nat.le_of_ble_eq_true rfl, Nat.le_of_ble_eq_true rfl⟩ (by show ((cells + 1) + 0) + 0 ≤ 603072; omega) (by show ((slots + 6) + 0) + 0 ≤ 7186538; omega) (Nat.le_of_ble_eq_true rfl) (fun _ w8 r4 => ?_)
      obtain ⟨rfl, I5, L5, rfl, hM5⟩ := r4
      refine JG_eq (w' := wm cy S I5 L5 R2 ++ (w9 ++ wlo cy S G)) (st' := [.int 2]) rfl rfl rfl ?_
      refine JG_iload 6 rfl dL_law_321 ?_
      refine JG_icmp_eq 328 (by decide) dL_law_323 (fun c6 => ?_) (fun c6 => ?_)
      rotate_left
      · exact absurd (by decide) c6
      refine JG_iload 6 rfl dL_law_328 ?_
      refine JG_if_ne 345 (by decide) dL_law_330 (fun c7 => ?_) (fun c7 => ?_)
      rotate_left
      · exact absurd c7 (by decide)
      refine JG_goto 2268 (by decide) dL_law_345 ?_
      refine JG_sub (lv' := [(0, .ref b), (1, .ref (ka S 0 0)), (2, .ref (ka S 30 0)), (3, .ref (ka S 80 0)), (4, .ref (ka S 81 0)), (5, .int (nI z))]) [0, 1, 2, 3, 4, 5] rfl ?_
      exact kk m _ _ _ _ _ _ _ _ ⟨LP, rc, hP⟩ hI (by omega) hM5 (by omega) (by omega)
  · skip
    refine JG_aload_n 1 rfl dL_law_280 ?_
    refine JG_aload_n 0 rfl dL_law_281 ?_
    refine JG_iload 5 rfl dL_law_282 ?_
    refine JG_iconst (v := 1) (by decide) dL_law_284 ?_
    refine JG_iadd dL_law_285 ?_
    refine JG_topeq (nI (z + 1)) (by exact nI_add z 1) ?_
    refine JG_sld (vp_in_nI (by omega) (by omega)) dL_law_286 ?_
    refine JG_topeq p1 (by rw [nI_toNat (by omega)]; exact e1) ?_
    refine JG_aload_n 0 rfl dL_law_287 ?_
    refine JG_iload 5 rfl dL_law_288 ?_
    refine JG_iconst (v := 2) (by decide) dL_law_290 ?_
    refine JG_iadd dL_law_291 ?_
    refine JG_topeq (nI (z + 2)) (by exact nI_add z 2) ?_
    refine JG_sld (vp_in_nI (by omega) (by omega)) dL_law_292 ?_
    refine JG_topeq p2 (by rw [nI_toNat (by omega)]; exact e2) ?_
    refine JG_aload_n 3 rfl dL_law_293 ?_
    refine JG_callH (As := [.ref (ka S 0 0), .int p1, .int p2, .ref (ka S 80 0)]) (rest := []) (wm cy S I2 L2 R2) [] dL_law_294 (w_move_1 (c_X7_move_x hR hI (by omega) hlg hx)) (by rw [List.append_nil]) lm_L_137 kw_L_move kiniL ks_L_move kdL_move ⟨Nat.le_of_ble_eq_true rfl, Nat.le_of_ble_eq_true rfl⟩ (by show cells + 1 ≤ 603072; omega) (by show slots + 6 ≤ 7186538; omega) (Nat.le_of_ble_eq_true rfl) (fun _ w8 r1 => ?_)
    obtain ⟨rfl, w9, hP, rfl⟩ := r1
    refine JG_eq (w' := wm cy S I2 L2 R2 ++ (w9 ++ wlo cy S G)) (st' := [.int 1]) (by rw [List.append_nil]) rfl rfl ?_
    refine JG_istore (lv' := [(0, .ref b), (1, .ref (ka S 0 0)), (2, .ref (ka S 30 0)), (3, .ref (ka S 80 0)), (4, .ref (ka S 81 0)), (5, .int (nI z)), (6, .int 1)]) (by decide) rfl dL_law_297 ?_
    refine JG_aload_n 2 rfl dL_law_299 ?_
    refine JG_aload_n 0 rfl dL_law_300 ?_
    refine JG_iload 5 rfl dL_law_301 ?_
    refine JG_iconst (v := 1) (by decide) dL_law_303 ?_
    refine JG_iadd dL_law_304 ?_
    refine JG_topeq (nI (z + 1)) (by exact nI_add z 1) ?_
    refine JG_sld (vp_in_nI (by omega) (by omega)) dL_law_305 ?_
    refine JG_topeq p1 (by rw [nI_toNat (by omega)]; exact e1) ?_
    refine JG_aload_n 0 rfl dL_law_306 ?_
    refine JG_iload 5 rfl dL_law_307 ?_
    refine JG_iconst (v := 2) (by decide) dL_law_309 ?_
    refine JG_iadd dL_law_310 ?_
    refine JG_topeq (nI (z + 2)) (by exact nI_add z 2) ?_
    refine JG_sld (vp_in_nI (by omega) (by omega)) dL_law_311 ?_
    refine JG_topeq p2 (by rw [nI_toNat (by omega)]; exact e2) ?_
    refine JG_callX8 (As := [.int p1, .int p2]) (rest := []) [] (w9 ++ wlo cy S G) dL_law_312 (c_X8_move_x hM hR hI (by omega) hx) rfl rfl lm_L_139 kc_yX8_move ki_yX8_move kv_yX8_move kd_yX8_move ⟨Nat.le_of_ble_eq_true rfl, Nat.le_of_ble_eq_true rfl⟩ (by show (cells + 1) + 0 ≤ 603072; omega) (by show (slots + 6) + 0 ≤ 7186538; omega) (Nat.le_of_ble_eq_true rfl) (fun _ w8 r2 => ?_)
    obtain ⟨rfl, I3, L3, rfl, hM3⟩ := r2
    refine JG_eq (w' := wm cy S I3 L3 R2 ++ (w9 ++ wlo cy S G)) (st' := [.int 0]) rfl rfl rfl ?_
    refine JG_istore (lv' := [(0, .ref b), (1, .ref (ka S 0 0)), (2, .ref (ka S 30 0)), (3, .ref (ka S 80 0)), (4, .ref (ka S 81 0)), (5, .int (nI z)), (6, .int 1), (7, .int 0)]) (by decide) rfl dL_law_315 ?_
    refine JG_aload_n 2 rfl dL_law_317 ?_
    refine JG_callX8 (As := []) (rest := []) [] (w9 ++ wlo cy S G) dL_law_318 (c_X8_thrown hM3) rfl rfl lm_L_133 kc_yX8_thrown ki_yX8_thrown kv_yX8_thrown kd_yX8_thrown ⟨Nat.le_of_ble_eq_true rfl, Nat.le_of_ble_eq_true rfl⟩ (by show ((cells + 1) + 0) + 0 ≤ 603072; omega) (by show ((slots + 6) + 0) + 0 ≤ 7186538; omega) (Nat.le_of_ble_eq_true rfl) (fun _ w8 r4 => ?_)
    obtain ⟨rfl, I5, L5, rfl, hM5⟩ := r4
    refine JG_eq (w' := wm cy S I5 L5 R2 ++ (w9 ++ wlo cy S G)) (st' := [.int 1]) rfl rfl rfl ?_
    refine JG_iload 6 rfl dL_law_321 ?_
    refine JG_icmp_eq 328 (by decide) dL_law_323 (fun c6 => ?_) (fun c6 => ?_)
    rotate_left
    · exact absurd (by decide) c6
    refine JG_iload 6 rfl dL_law_328 ?_
    refine JG_if_ne 345 (by decide) dL_law_330 (fun c7 => ?_) (fun c7 => ?_)
    rotate_left
    · exact absurd c7 (by decide)
    refine JG_goto 2268 (by decide) dL_law_345 ?_
    refine JG_sub (lv' := [(0, .ref b), (1, .ref (ka S 0 0)), (2, .ref (ka S 30 0)), (3, .ref (ka S 80 0)), (4, .ref (ka S 81 0)), (5, .int (nI z))]) [0, 1, 2, 3, 4, 5] rfl ?_
    exact kk m _ _ _ _ _ _ _ _ ⟨LP, rc, hP⟩ hI (by omega) hM5 (by omega) (by omega)

set_option maxRecDepth 20000 in
set_option maxHeartbeats 1000000 in
theorem lc_setOn {cy : Nat → ClassId} {S : Nat → Nat → Nat} {I I2 : kI} {L L2 G : kL} {R R2 : kRf} {LP : List Nat} {m : Mu} {rc : Nat → Nat} {ln qu : List Nat} {lg B : Nat} {cd : Int32} {b Lx z cells slots : Nat} {xs : Nat → Int32} {p1 p2 : Int32} (hR : Rel m I L R LP rc ln qu lg) (hI : Inv m B) (hB : B + 100000 < 2 ^ 30) (hlg : lg < 2 ^ 30) (hM : MR m cd I2 L2) (hz : z + 4 < Lx) (hLx : Lx ≤ 2560) (hcl : cells + 101 ≤ 603072) (hsl : slots + 1307 ≤ 7186538) (e1 : xs (z + 1) = p1) (e2 : xs (z + 2) = p2) (kk : ∀ (m' : Mu) (B' : Nat) (w9 : va_W) (I2 : kI) (L2 : kL) (cd : Int32) (G : kL) (c' s' : Nat), (∃ LP rc, RelX cy S LP rc m' w9) → Inv m' B' → B' ≤ B + 90000 → MR m' cd I2 L2 → c' ≤ cells + 100 → s' ≤ slots + 1300 → JG RL cL_law 9 cy room_1 (ExL b Lx xs) FinL 2268 [(0, .ref b), (1, .ref (ka S 0 0)), (2, .ref (ka S 30 0)), (3, .ref (ka S 80 0)), (4, .ref (ka S 81 0)), (5, .int (nI z))] [] (wm cy S I2 L2 R2 ++ (w9 ++ wlo cy S G)) c' s') : JG RL cL_law 9 cy room_1 (ExL b Lx xs) FinL 348 [(0, .ref b), (1, .ref (ka S 0 0)), (2, .ref (ka S 30 0)), (3, .ref (ka S 80 0)), (4, .ref (ka S 81 0)), (5, .int (nI z))] [] (wm cy S I2 L2 R2 ++ (wc cy S I L R LP ++ wlo cy S G)) cells slots := by
  have hl31 : lg < 2 ^ 31 := by omega
  by_cases hz0 : p2 = 0
  · skip
    rcases lt_or (mS m) p1 with ⟨s, hs, rfl⟩ | hx
    · skip
      rcases opt_split (mHold m (nI s)) with hm | ⟨c, hm⟩
      · skip
        refine JG_aload_n 1 rfl dL_law_348 ?_
        refine JG_aload_n 0 rfl dL_law_349 ?_
        refine JG_iload 5 rfl dL_law_350 ?_
        refine JG_iconst (v := 1) (by decide) dL_law_352 ?_
        refine JG_iadd dL_law_353 ?_
        refine JG_topeq (nI (z + 1)) (by exact nI_add z 1) ?_
        refine JG_sld (vp_in_nI (by omega) (by omega)) dL_law_354 ?_
        refine JG_topeq (nI s) (by rw [nI_toNat (by omega)]; exact e1) ?_
        refine JG_aload_n 0 rfl dL_law_355 ?_
        refine JG_iload 5 rfl dL_law_356 ?_
        refine JG_iconst (v := 2) (by decide) dL_law_358 ?_
        refine JG_iadd dL_law_359 ?_
        refine JG_topeq (nI (z + 2)) (by exact nI_add z 2) ?_
        refine JG_sld (vp_in_nI (by omega) (by omega)) dL_law_360 ?_
        refine JG_topeq p2 (by rw [nI_toNat (by omega)]; exact e2) ?_
        refine JG_if_eq 368 (by decide) dL_law_361 (fun c1 => ?_) (fun c1 => ?_)
        rotate_left
        · exfalso
          first | exact hz0 c1 | exact c1 hz0
        refine JG_iconst (v := 0) (by decide) dL_law_368 ?_
        refine JG_aload_n 3 rfl dL_law_369 ?_
        refine JG_callH (As := [.ref (ka S 0 0), .int (nI s), .int 0, .ref (ka S 80 0)]) (rest := []) (wm cy S I2 L2 R2) [] dL_law_370 (w_setOn_s (by split <;> simp) (c_X7_setOn_0n hR hI (by omega) hlg hs hm)) (by rw [List.append_nil]) lm_L_140 kw_L_setOn kiniL ks_L_setOn kdL_setOn ⟨Nat.le_of_ble_eq_true rfl, Nat.le_of_ble_eq_true rfl⟩ (by show cells + 0 ≤ 603072; omega) (by show slots + 0 ≤ 7186538; omega) (Nat.le_of_ble_eq_true rfl) (fun _ w8 r2 => ?_)
        obtain ⟨rfl, w9, hP, rfl⟩ := r2
        refine JG_eq (w' := wm cy S I2 L2 R2 ++ (w9 ++ wlo cy S (ku G 80 0 0 (if (if m.1 43 s = 0 then (1 : Int32) else 0) = 0 then 0 else 1)))) (st' := [.int 0]) (by rw [List.append_nil]) rfl rfl ?_
        refine JG_istore (lv' := [(0, .ref b), (1, .ref (ka S 0 0)), (2, .ref (ka S 30 0)), (3, .ref (ka S 80 0)), (4, .ref (ka S 81 0)), (5, .int (nI z)), (6, .int 0)]) (by decide) rfl dL_law_373 ?_
        refine JG_aload_n 2 rfl dL_law_375 ?_
        refine JG_aload_n 0 rfl dL_law_376 ?_
        refine JG_iload 5 rfl dL_law_377 ?_
        refine JG_iconst (v := 1) (by decide) dL_law_379 ?_
        refine JG_iadd dL_law_380 ?_
        refine JG_topeq (nI (z + 1)) (by exact nI_add z 1) ?_
        refine JG_sld (vp_in_nI (by omega) (by omega)) dL_law_381 ?_
        refine JG_topeq (nI s) (by rw [nI_toNat (by omega)]; exact e1) ?_
        refine JG_aload_n 0 rfl dL_law_382 ?_
        refine JG_iload 5 rfl dL_law_383 ?_
        refine JG_iconst (v := 2) (by decide) dL_law_385 ?_
        refine JG_iadd dL_law_386 ?_
        refine JG_topeq (nI (z + 2)) (by exact nI_add z 2) ?_
        refine JG_sld (vp_in_nI (by omega) (by omega)) dL_law_387 ?_
        refine JG_topeq p2 (by rw [nI_toNat (by omega)]; exact e2) ?_
        refine JG_if_eq 395 (by decide) dL_law_388 (fun c3 => ?_) (fun c3 => ?_)
        rotate_left
        · exfalso
          first | exact hz0 c3 | exact c3 hz0
        refine JG_iconst (v := 0) (by decide) dL_law_395 ?_
        refine JG_callX8 (As := [.int (nI s), .int 0]) (rest := []) [] (w9 ++ wlo cy S (ku G 80 0 0 (if (if m.1 43 s = 0 then (1 : Int32) else 0) = 0 then 0 else 1))) dL_law_396 (c_X8_setOn_0n hM hR hI (by omega) hs hm) rfl rfl lm_L_143 kc_yX8_setOn ki_yX8_setOn kv_yX8_setOn kd_yX8_setOn ⟨Nat.le_of_ble_eq_true rfl, Nat.le_of_ble_eq_true rfl⟩ (by show (cells + 0) + 0 ≤ 603072; omega) (by show (slots + 0) + 0 ≤ 7186538; omega) (Nat.le_of_ble_eq_true rfl) (fun _ w8 r4 => ?_)
        obtain ⟨rfl, I5, L5, rfl, hM5⟩ := r4
        refine JG_eq (w' := wm cy S I5 L5 R2 ++ (w9 ++ wlo cy S (ku G 80 0 0 (if (if m.1 43 s = 0 then (1 : Int32) else 0) = 0 then 0 else 1)))) (st' := [.int (if m.1 43 s = 0 then (1 : Int32) else 0)]) rfl rfl rfl ?_
        refine JG_istore (lv' := [(0, .ref b), (1, .ref (ka S 0 0)), (2, .ref (ka S 30 0)), (3, .ref (ka S 80 0)), (4, .ref (ka S 81 0)), (5, .int (nI z)), (6, .int 0), (7, .int (if m.1 43 s = 0 then (1 : Int32) else 0))]) (by decide) rfl dL_law_399 ?_
        refine JG_aload_n 2 rfl dL_law_401 ?_
        refine JG_callX8 (As := []) (rest := []) [] (w9 ++ wlo cy S (ku G 80 0 0 (if (if m.1 43 s = 0 then (1 : Int32) else 0) = 0 then 0 else 1))) dL_law_402 (c_X8_thrown hM5) rfl rfl lm_L_133 kc_yX8_thrown ki_yX8_thrown kv_yX8_thrown kd_yX8_thrown ⟨Nat.le_of_ble_eq_true rfl, Nat.le_of_ble_eq_true rfl⟩ (by show ((cells + 0) + 0) + 0 ≤ 603072; omega) (by show ((slots + 0) + 0) + 0 ≤ 7186538; omega) (Nat.le_of_ble_eq_true rfl) (fun _ w8 r6 => ?_)
        obtain ⟨rfl, I7, L7, rfl, hM7⟩ := r6
        refine JG_eq (w' := wm cy S I7 L7 R2 ++ (w9 ++ wlo cy S (ku G 80 0 0 (if (if m.1 43 s = 0 then (1 : Int32) else 0) = 0 then 0 else 1)))) (st' := [.int 0]) rfl rfl rfl ?_
        refine JG_iload 6 rfl dL_law_405 ?_
        refine JG_icmp_eq 412 (by decide) dL_law_407 (fun c8 => ?_) (fun c8 => ?_)
        rotate_left
        · exact absurd (by decide) c8
        refine JG_iload 6 rfl dL_law_412 ?_
        refine JG_if_ne 436 (by decide) dL_law_414 (fun c9 => ?_) (fun c9 => ?_)
        · exact absurd (by decide) c9
        refine JG_aload_n 3 rfl dL_law_417 ?_
        refine JG_iconst (v := 0) (by decide) dL_law_418 ?_
        refine JG_eq (w' := (wm cy S I7 L7 R2 ++ w9) ++ wlo cy S (ku G 80 0 0 (if (if m.1 43 s = 0 then (1 : Int32) else 0) = 0 then 0 else 1))) (List.append_assoc _ _ _).symm rfl rfl ?_
        refine JG_laldO dL_law_419 ?_
        refine JG_eq (w' := wm cy S I7 L7 R2 ++ (w9 ++ wlo cy S (ku G 80 0 0 (if (if m.1 43 s = 0 then (1 : Int32) else 0) = 0 then 0 else 1)))) (st' := [.long (if (if m.1 43 s = 0 then (1 : Int32) else 0) = 0 then 0 else 1)]) (List.append_assoc _ _ _) rfl (by rw [ku_eq]) ?_
        refine JG_iload 7 rfl dL_law_420 ?_
        refine JG_if_eq 429 (by decide) dL_law_422 (fun c10 => ?_) (fun c10 => ?_)
        · skip
          refine JG_lconst (v := 0) (by decide) dL_law_429 ?_
          refine JG_lcmp (by first | rw [if_pos (by assumption)] | rw [if_neg (by assumption)]) dL_law_430 ?_
          refine JG_if_eq 436 (by decide) dL_law_431 (fun c11 => ?_) (fun c11 => ?_)
          rotate_left
          · exact absurd (by decide) c11
          refine JG_goto 2268 (by decide) dL_law_436 ?_
          refine JG_sub (lv' := [(0, .ref b), (1, .ref (ka S 0 0)), (2, .ref (ka S 30 0)), (3, .ref (ka S 80 0)), (4, .ref (ka S 81 0)), (5, .int (nI z))]) [0, 1, 2, 3, 4, 5] rfl ?_
          exact kk (mSpeak (soM m s false)) _ _ _ _ _ _ _ _ ⟨LP, rc, hP⟩ (speak_inv (inv_so (b := false) hI hs) (by omega)) (by omega) hM7 (by omega) (by omega)
        · skip
          refine JG_lconst (v := 1) (by decide) dL_law_425 ?_
          refine JG_goto 430 (by decide) dL_law_426 ?_
          refine JG_lcmp (by first | rw [if_pos (by assumption)] | rw [if_neg (by assumption)]) dL_law_430 ?_
          refine JG_if_eq 436 (by decide) dL_law_431 (fun c12 => ?_) (fun c12 => ?_)
          rotate_left
          · exact absurd (by decide) c12
          refine JG_goto 2268 (by decide) dL_law_436 ?_
          refine JG_sub (lv' := [(0, .ref b), (1, .ref (ka S 0 0)), (2, .ref (ka S 30 0)), (3, .ref (ka S 80 0)), (4, .ref (ka S 81 0)), (5, .int (nI z))]) [0, 1, 2, 3, 4, 5] rfl ?_
          exact kk (mSpeak (soM m s false)) _ _ _ _ _ _ _ _ ⟨LP, rc, hP⟩ (speak_inv (inv_so (b := false) hI hs) (by omega)) (by omega) hM7 (by omega) (by omega)
      · obtain ⟨hc, hsc, -⟩ := (mHold_iff hI.2.2.2.2.1 (by have := hI.1; omega)).mp hm
        refine JG_aload_n 1 rfl dL_law_348 ?_
        refine JG_aload_n 0 rfl dL_law_349 ?_
        refine JG_iload 5 rfl dL_law_350 ?_
        refine JG_iconst (v := 1) (by decide) dL_law_352 ?_
        refine JG_iadd dL_law_353 ?_
        refine JG_topeq (nI (z + 1)) (by exact nI_add z 1) ?_
        refine JG_sld (vp_in_nI (by omega) (by omega)) dL_law_354 ?_
        refine JG_topeq (nI s) (by rw [nI_toNat (by omega)]; exact e1) ?_
        refine JG_aload_n 0 rfl dL_law_355 ?_
        refine JG_iload 5 rfl dL_law_356 ?_
        refine JG_iconst (v := 2) (by decide) dL_law_358 ?_
        refine JG_iadd dL_law_359 ?_
        refine JG_topeq (nI (z + 2)) (by exact nI_add z 2) ?_
        refine JG_sld (vp_in_nI (by omega) (by omega)) dL_law_360 ?_
        refine JG_topeq p2 (by rw [nI_toNat (by omega)]; exact e2) ?_
        refine JG_if_eq 368 (by decide) dL_law_361 (fun c1 => ?_) (fun c1 => ?_)
        rotate_left
        · exfalso
          first | exact hz0 c1 | exact c1 hz0
        refine JG_iconst (v := 0) (by decide) dL_law_368 ?_
        refine JG_aload_n 3 rfl dL_law_369 ?_
        refine JG_callH (As := [.ref (ka S 0 0), .int (nI s), .int 0, .ref (ka S 80 0)]) (rest := []) (wm cy S I2 L2 R2) [] dL_law_370 (w_setOn_s (by split <;> simp) (c_X7_setOn_0c hR hI (by omega) hlg hs hm)) (by rw [List.append_nil]) lm_L_140 kw_L_setOn kiniL ks_L_setOn kdL_setOn ⟨Nat.le_of_ble_eq_true rfl, Nat.le_of_ble_eq_true rfl⟩ (by show cells + 0 ≤ 603072; omega) (by show slots + 0 ≤ 7186538; omega) (Nat.le_of_ble_eq_true rfl) (fun _ w8 r2 => ?_)
        obtain ⟨rfl, w9, hP, rfl⟩ := r2
        refine JG_eq (w' := wm cy S I2 L2 R2 ++ (w9 ++ wlo cy S (ku G 80 0 0 (if (if m.1 43 s = 0 then (1 : Int32) else 0) = 0 then 0 else 1)))) (st' := [.int 0]) (by rw [List.append_nil]) rfl rfl ?_
        refine JG_istore (lv' := [(0, .ref b), (1, .ref (ka S 0 0)), (2, .ref (ka S 30 0)), (3, .ref (ka S 80 0)), (4, .ref (ka S 81 0)), (5, .int (nI z)), (6, .int 0)]) (by decide) rfl dL_law_373 ?_
        refine JG_aload_n 2 rfl dL_law_375 ?_
        refine JG_aload_n 0 rfl dL_law_376 ?_
        refine JG_iload 5 rfl dL_law_377 ?_
        refine JG_iconst (v := 1) (by decide) dL_law_379 ?_
        refine JG_iadd dL_law_380 ?_
        refine JG_topeq (nI (z + 1)) (by exact nI_add z 1) ?_
        refine JG_sld (vp_in_nI (by omega) (by omega)) dL_law_381 ?_
        refine JG_topeq (nI s) (by rw [nI_toNat (by omega)]; exact e1) ?_
        refine JG_aload_n 0 rfl dL_law_382 ?_
        refine JG_iload 5 rfl dL_law_383 ?_
        refine JG_iconst (v := 2) (by decide) dL_law_385 ?_
        refine JG_iadd dL_law_386 ?_
        refine JG_topeq (nI (z + 2)) (by exact nI_add z 2) ?_
        refine JG_sld (vp_in_nI (by omega) (by omega)) dL_law_387 ?_
        refine JG_topeq p2 (by rw [nI_toNat (by omega)]; exact e2) ?_
        refine JG_if_eq 395 (by decide) dL_law_388 (fun c3 => ?_) (fun c3 => ?_)
        rotate_left
        · exfalso
          first | exact hz0 c3 | exact c3 hz0
        refine JG_iconst (v := 0) (by decide) dL_law_395 ?_
        refine JG_callX8 (As := [.int (nI s), .int 0]) (rest := []) [] (w9 ++ wlo cy S (ku G 80 0 0 (if (if m.1 43 s = 0 then (1 : Int32) else 0) = 0 then 0 else 1))) dL_law_396 (c_X8_setOn_0c hM hR hI (by omega) hs hm) rfl rfl lm_L_143 kc_yX8_setOn ki_yX8_setOn kv_yX8_setOn kd_yX8_setOn ⟨Nat.le_of_ble_eq_true rfl, Nat.le_of_ble_eq_true rfl⟩ (by show (cells + 0) + 0 ≤ 603072; omega) (by show (slots + 0) + 0 ≤ 7186538; omega) (Nat.le_of_ble_eq_true rfl) (fun _ w8 r4 => ?_)
        obtain ⟨rfl, I5, L5, rfl, hM5⟩ := r4
        refine JG_eq (w' := wm cy S I5 L5 R2 ++ (w9 ++ wlo cy S (ku G 80 0 0 (if (if m.1 43 s = 0 then (1 : Int32) else 0) = 0 then 0 else 1)))) (st' := [.int (if m.1 43 s = 0 then (1 : Int32) else 0)]) rfl rfl rfl ?_
        refine JG_istore (lv' := [(0, .ref b), (1, .ref (ka S 0 0)), (2, .ref (ka S 30 0)), (3, .ref (ka S 80 0)), (4, .ref (ka S 81 0)), (5, .int (nI z)), (6, .int 0), (7, .int (if m.1 43 s = 0 then (1 : Int32) else 0))]) (by decide) rfl dL_law_399 ?_
        refine JG_aload_n 2 rfl dL_law_401 ?_
        refine JG_callX8 (As := []) (rest := []) [] (w9 ++ wlo cy S (ku G 80 0 0 (if (if m.1 43 s = 0 then (1 : Int32) else 0) = 0 then 0 else 1))) dL_law_402 (c_X8_thrown hM5) rfl rfl lm_L_133 kc_yX8_thrown ki_yX8_thrown kv_yX8_thrown kd_yX8_thrown ⟨Nat.le_of_ble_eq_true rfl, Nat.le_of_ble_eq_true rfl⟩ (by show ((cells + 0) + 0) + 0 ≤ 603072; omega) (by show ((slots + 0) + 0) + 0 ≤ 7186538; omega) (Nat.le_of_ble_eq_true rfl) (fun _ w8 r6 => ?_)
        obtain ⟨rfl, I7, L7, rfl, hM7⟩ := r6
        refine JG_eq (w' := wm cy S I7 L7 R2 ++ (w9 ++ wlo cy S (ku G 80 0 0 (if (if m.1 43 s = 0 then (1 : Int32) else 0) = 0 then 0 else 1)))) (st' := [.int 0]) rfl rfl rfl ?_
        refine JG_iload 6 rfl dL_law_405 ?_
        refine JG_icmp_eq 412 (by decide) dL_law_407 (fun c8 => ?_) (fun c8 => ?_)
        rotate_left
        · exact absurd (by decide) c8
        refine JG_iload 6 rfl dL_law_412 ?_
        refine JG_if_ne 436 (by decide) dL_law_414 (fun c9 => ?_) (fun c9 => ?_)
        · exact absurd (by decide) c9
        refine JG_aload_n 3 rfl dL_law_417 ?_
        refine JG_iconst (v := 0) (by decide) dL_law_418 ?_
        refine JG_eq (w' := (wm cy S I7 L7 R2 ++ w9) ++ wlo cy S (ku G 80 0 0 (if (if m.1 43 s = 0 then (1 : Int32) else 0) = 0 then 0 else 1))) (List.append_assoc _ _ _).symm rfl rfl ?_
        refine JG_laldO dL_law_419 ?_
        refine JG_eq (w' := wm cy S I7 L7 R2 ++ (w9 ++ wlo cy S (ku G 80 0 0 (if (if m.1 43 s = 0 then (1 : Int32) else 0) = 0 then 0 else 1)))) (st' := [.long (if (if m.1 43 s = 0 then (1 : Int32) else 0) = 0 then 0 else 1)]) (List.append_assoc _ _ _) rfl (by rw [ku_eq]) ?_
        refine JG_iload 7 rfl dL_law_420 ?_
        refine JG_if_eq 429 (by decide) dL_law_422 (fun c10 => ?_) (fun c10 => ?_)
        · skip
          refine JG_lconst (v := 0) (by decide) dL_law_429 ?_
          refine JG_lcmp (by first | rw [if_pos (by assumption)] | rw [if_neg (by assumption)]) dL_law_430 ?_
          refine JG_if_eq 436 (by decide) dL_law_431 (fun c11 => ?_) (fun c11 => ?_)
          rotate_left
          · exact absurd (by decide) c11
          refine JG_goto 2268 (by decide) dL_law_436 ?_
          refine JG_sub (lv' := [(0, .ref b), (1, .ref (ka S 0 0)), (2, .ref (ka S 30 0)), (3, .ref (ka S 80 0)), (4, .ref (ka S 81 0)), (5, .int (nI z))]) [0, 1, 2, 3, 4, 5] rfl ?_
          exact kk (mSpeak (mInt (soM m s false) c)) _ _ _ _ _ _ _ _ ⟨LP, rc, hP⟩ (speak_inv (inv_int (inv_so (b := false) hI hs) hc hsc) (by omega)) (by omega) hM7 (by omega) (by omega)
        · skip
          refine JG_lconst (v := 1) (by decide) dL_law_425 ?_
          refine JG_goto 430 (by decide) dL_law_426 ?_
          refine JG_lcmp (by first | rw [if_pos (by assumption)] | rw [if_neg (by assumption)]) dL_law_430 ?_
          refine JG_if_eq 436 (by decide) dL_law_431 (fun c12 => ?_) (fun c12 => ?_)
          rotate_left
          · exact absurd (by decide) c12
          refine JG_goto 2268 (by decide) dL_law_436 ?_
          refine JG_sub (lv' := [(0, .ref b), (1, .ref (ka S 0 0)), (2, .ref (ka S 30 0)), (3, .ref (ka S 80 0)), (4, .ref (ka S 81 0)), (5, .int (nI z))]) [0, 1, 2, 3, 4, 5] rfl ?_
          exact kk (mSpeak (mInt (soM m s false) c)) _ _ _ _ _ _ _ _ ⟨LP, rc, hP⟩ (speak_inv (inv_int (inv_so (b := false) hI hs) hc hsc) (by omega)) (by omega) hM7 (by omega) (by omega)
    · skip
      refine JG_aload_n 1 rfl dL_law_348 ?_
      refine JG_aload_n 0 rfl dL_law_349 ?_
      refine JG_iload 5 rfl dL_law_350 ?_
      refine JG_iconst (v := 1) (by decide) dL_law_352 ?_
      refine JG_iadd dL_law_353 ?_
      refine JG_topeq (nI (z + 1)) (by exact nI_add z 1) ?_
      refine JG_sld (vp_in_nI (by omega) (by omega)) dL_law_354 ?_
      refine JG_topeq p1 (by rw [nI_toNat (by omega)]; exact e1) ?_
      refine JG_aload_n 0 rfl dL_law_355 ?_
      refine JG_iload 5 rfl dL_law_356 ?_
      refine JG_iconst (v := 2) (by decide) dL_law_358 ?_
      refine JG_iadd dL_law_359 ?_
      refine JG_topeq (nI (z + 2)) (by exact nI_add z 2) ?_
      refine JG_sld (vp_in_nI (by omega) (by omega)) dL_law_360 ?_
      refine JG_topeq p2 (by rw [nI_toNat (by omega)]; exact e2) ?_
      refine JG_if_eq 368 (by decide) dL_law_361 (fun c1 => ?_) (fun c1 => ?_)
      rotate_left
      · exfalso
        first | exact hz0 c1 | exact c1 hz0
      refine JG_iconst (v := 0) (by decide) dL_law_368 ?_
      refine JG_aload_n 3 rfl dL_law_369 ?_
      refine JG_callH (As := [.ref (ka S 0 0), .int p1, .int 0, .ref (ka S 80 0)]) (rest := []) (wm cy S I2 L2 R2) [] dL_law_370 (w_setOn_1 (c_X7_setOn_x hR hI (by omega) hlg hx)) (by rw [List.append_nil]) lm_L_140 kw_L_setOn kiniL ks_L_setOn kdL_setOn ⟨Nat.le_of_ble_eq_true rfl, Nat.le_of_ble_eq_true rfl⟩ (by show cells + 1 ≤ 603072; omega) (by show slots + 6 ≤ 7186538; omega) (Nat.le_of_ble_eq_true rfl) (fun _ w8 r2 => ?_)
      obtain ⟨rfl, w9, hP, rfl⟩ := r2
      refine JG_eq (w' := wm cy S I2 L2 R2 ++ (w9 ++ wlo cy S G)) (st' := [.int 1]) (by rw [List.append_nil]) rfl rfl ?_
      refine JG_istore (lv' := [(0, .ref b), (1, .ref (ka S 0 0)), (2, .ref (ka S 30 0)), (3, .ref (ka S 80 0)), (4, .ref (ka S 81 0)), (5, .int (nI z)), (6, .int 1)]) (by decide) rfl dL_law_373 ?_
      refine JG_aload_n 2 rfl dL_law_375 ?_
      refine JG_aload_n 0 rfl dL_law_376 ?_
      refine JG_iload 5 rfl dL_law_377 ?_
      refine JG_iconst (v := 1) (by decide) dL_law_379 ?_
      refine JG_iadd dL_law_380 ?_
      refine JG_topeq (nI (z + 1)) (by exact nI_add z 1) ?_
      refine JG_sld (vp_in_nI (by omega) (by omega)) dL_law_381 ?_
      refine JG_topeq p1 (by rw [nI_toNat (by omega)]; exact e1) ?_
      refine JG_aload_n 0 rfl dL_law_382 ?_
      refine JG_iload 5 rfl dL_law_383 ?_
      refine JG_iconst (v := 2) (by decide) dL_law_385 ?_
      refine JG_iadd dL_law_386 ?_
      refine JG_topeq (nI (z + 2)) (by exact nI_add z 2) ?_
      refine JG_sld (vp_in_nI (by omega) (by omega)) dL_law_387 ?_
      refine JG_topeq p2 (by rw [nI_toNat (by omega)]; exact e2) ?_
      refine JG_if_eq 395 (by decide) dL_law_388 (fun c3 => ?_) (fun c3 => ?_)
      rotate_left
      · exfalso
        first | exact hz0 c3 | exact c3 hz0
      refine JG_iconst (v := 0) (by decide) dL_law_395 ?_
      refine JG_callX8 (As := [.int p1, .int 0]) (rest := []) [] (w9 ++ wlo cy S G) dL_law_396 (c_X8_setOn_x hM hR hI (by omega) hx) rfl rfl lm_L_143 kc_yX8_setOn ki_yX8_setOn kv_yX8_setOn kd_yX8_setOn ⟨Nat.le_of_ble_eq_true rfl, Nat.le_of_ble_eq_true rfl⟩ (by show (cells + 1) + 0 ≤ 603072; omega) (by show (slots + 6) + 0 ≤ 7186538; omega) (Nat.le_of_ble_eq_true rfl) (fun _ w8 r4 => ?_)
      obtain ⟨rfl, I5, L5, rfl, hM5⟩ := r4
      refine JG_eq (w' := wm cy S I5 L5 R2 ++ (w9 ++ wlo cy S G)) (st' := [.int 0]) rfl rfl rfl ?_
      refine JG_istore (lv' := [(0, .ref b), (1, .ref (ka S 0 0)), (2, .ref (ka S 30 0)), (3, .ref (ka S 80 0)), (4, .ref (ka S 81 0)), (5, .int (nI z)), (6, .int 1), (7, .int 0)]) (by decide) rfl dL_law_399 ?_
      refine JG_aload_n 2 rfl dL_law_401 ?_
      refine JG_callX8 (As := []) (rest := []) [] (w9 ++ wlo cy S G) dL_law_402 (c_X8_thrown hM5) rfl rfl lm_L_133 kc_yX8_thrown ki_yX8_thrown kv_yX8_thrown kd_yX8_thrown ⟨Nat.le_of_ble_eq_true rfl, Nat.le_of_ble_eq_true rfl⟩ (by show ((cells + 1) + 0) + 0 ≤ 603072; omega) (by show ((slots + 6) + 0) + 0 ≤ 7186538; omega) (Nat.le_of_ble_eq_true rfl) (fun _ w8 r6 => ?_)
      obtain ⟨rfl, I7, L7, rfl, hM7⟩ := r6
      refine JG_eq (w' := wm cy S I7 L7 R2 ++ (w9 ++ wlo cy S G)) (st' := [.int 1]) rfl rfl rfl ?_
      refine JG_iload 6 rfl dL_law_405 ?_
      refine JG_icmp_eq 412 (by decide) dL_law_407 (fun c8 => ?_) (fun c8 => ?_)
      rotate_left
      · exact absurd (by decide) c8
      refine JG_iload 6 rfl dL_law_412 ?_
      refine JG_if_ne 436 (by decide) dL_law_414 (fun c9 => ?_) (fun c9 => ?_)
      rotate_left
      · exact absurd c9 (by decide)
      refine JG_goto 2268 (by decide) dL_law_436 ?_
      refine JG_sub (lv' := [(0, .ref b), (1, .ref (ka S 0 0)), (2, .ref (ka S 30 0)), (3, .ref (ka S 80 0)), (4, .ref (ka S 81 0)), (5, .int (nI z))]) [0, 1, 2, 3, 4, 5] rfl ?_
      exact kk m _ _ _ _ _ _ _ _ ⟨LP, rc, hP⟩ hI (by omega) hM7 (by omega) (by omega)
  · skip
    rcases lt_or (mS m) p1 with ⟨s, hs, rfl⟩ | hx
    · skip
      rcases opt_split (mHold m (nI s)) with hm | ⟨c, hm⟩
      · skip
        refine JG_aload_n 1 rfl dL_law_348 ?_
        refine JG_aload_n 0 rfl dL_law_349 ?_
        refine JG_iload 5 rfl dL_law_350 ?_
        refine JG_iconst (v := 1) (by decide) dL_law_352 ?_
        refine JG_iadd dL_law_353 ?_
        refine JG_topeq (nI (z + 1)) (by exact nI_add z 1) ?_
        refine JG_sld (vp_in_nI (by omega) (by omega)) dL_law_354 ?_
        refine JG_topeq (nI s) (by rw [nI_toNat (by omega)]; exact e1) ?_
        refine JG_aload_n 0 rfl dL_law_355 ?_
        refine JG_iload 5 rfl dL_law_356 ?_
        refine JG_iconst (v := 2) (by decide) dL_law_358 ?_
        refine JG_iadd dL_law_359 ?_
        refine JG_topeq (nI (z + 2)) (by exact nI_add z 2) ?_
        refine JG_sld (vp_in_nI (by omega) (by omega)) dL_law_360 ?_
        refine JG_topeq p2 (by rw [nI_toNat (by omega)]; exact e2) ?_
        refine JG_if_eq 368 (by decide) dL_law_361 (fun c1 => ?_) (fun c1 => ?_)
        · exfalso
          first | exact hz0 c1 | exact c1 hz0
        refine JG_iconst (v := 1) (by decide) dL_law_364 ?_
        refine JG_goto 369 (by decide) dL_law_365 ?_
        refine JG_aload_n 3 rfl dL_law_369 ?_
        refine JG_callH (As := [.ref (ka S 0 0), .int (nI s), .int 1, .ref (ka S 80 0)]) (rest := []) (wm cy S I2 L2 R2) [] dL_law_370 (w_setOn_s (by split <;> simp) (c_X7_setOn_1n hR hI (by omega) hlg hs hm)) (by rw [List.append_nil]) lm_L_140 kw_L_setOn kiniL ks_L_setOn kdL_setOn ⟨Nat.le_of_ble_eq_true rfl, Nat.le_of_ble_eq_true rfl⟩ (by show cells + 0 ≤ 603072; omega) (by show slots + 0 ≤ 7186538; omega) (Nat.le_of_ble_eq_true rfl) (fun _ w8 r2 => ?_)
        obtain ⟨rfl, w9, hP, rfl⟩ := r2
        refine JG_eq (w' := wm cy S I2 L2 R2 ++ (w9 ++ wlo cy S (ku G 80 0 0 (if (if m.1 43 s = 0 then (1 : Int32) else 0) = 0 then 0 else 1)))) (st' := [.int 0]) (by rw [List.append_nil]) rfl rfl ?_
        refine JG_istore (lv' := [(0, .ref b), (1, .ref (ka S 0 0)), (2, .ref (ka S 30 0)), (3, .ref (ka S 80 0)), (4, .ref (ka S 81 0)), (5, .int (nI z)), (6, .int 0)]) (by decide) rfl dL_law_373 ?_
        refine JG_aload_n 2 rfl dL_law_375 ?_
        refine JG_aload_n 0 rfl dL_law_376 ?_
        refine JG_iload 5 rfl dL_law_377 ?_
        refine JG_iconst (v := 1) (by decide) dL_law_379 ?_
        refine JG_iadd dL_law_380 ?_
        refine JG_topeq (nI (z + 1)) (by exact nI_add z 1) ?_
        refine JG_sld (vp_in_nI (by omega) (by omega)) dL_law_381 ?_
        refine JG_topeq (nI s) (by rw [nI_toNat (by omega)]; exact e1) ?_
        refine JG_aload_n 0 rfl dL_law_382 ?_
        refine JG_iload 5 rfl dL_law_383 ?_
        refine JG_iconst (v := 2) (by decide) dL_law_385 ?_
        refine JG_iadd dL_law_386 ?_
        refine JG_topeq (nI (z + 2)) (by exact nI_add z 2) ?_
        refine JG_sld (vp_in_nI (by omega) (by omega)) dL_law_387 ?_
        refine JG_topeq p2 (by rw [nI_toNat (by omega)]; exact e2) ?_
        refine JG_if_eq 395 (by decide) dL_law_388 (fun c3 => ?_) (fun c3 => ?_)
        · exfalso
          first | exact hz0 c3 | exact c3 hz0
        refine JG_iconst (v := 1) (by decide) dL_law_391 ?_
        refine JG_goto 396 (by decide) dL_law_392 ?_
        refine JG_callX8 (As := [.int (nI s), .int 1]) (rest := []) [] (w9 ++ wlo cy S (ku G 80 0 0 (if (if m.1 43 s = 0 then (1 : Int32) else 0) = 0 then 0 else 1))) dL_law_396 (c_X8_setOn_1 hM hR hI (by omega) hs) rfl rfl lm_L_143 kc_yX8_setOn ki_yX8_setOn kv_yX8_setOn kd_yX8_setOn ⟨Nat.le_of_ble_eq_true rfl, Nat.le_of_ble_eq_true rfl⟩ (by show (cells + 0) + 0 ≤ 603072; omega) (by show (slots + 0) + 0 ≤ 7186538; omega) (Nat.le_of_ble_eq_true rfl) (fun _ w8 r4 => ?_)
        obtain ⟨rfl, I5, L5, rfl, hM5⟩ := r4
        refine JG_eq (w' := wm cy S I5 L5 R2 ++ (w9 ++ wlo cy S (ku G 80 0 0 (if (if m.1 43 s = 0 then (1 : Int32) else 0) = 0 then 0 else 1)))) (st' := [.int (if m.1 43 s = 0 then (1 : Int32) else 0)]) rfl rfl rfl ?_
        refine JG_istore (lv' := [(0, .ref b), (1, .ref (ka S 0 0)), (2, .ref (ka S 30 0)), (3, .ref (ka S 80 0)), (4, .ref (ka S 81 0)), (5, .int (nI z)), (6, .int 0), (7, .int (if m.1 43 s = 0 then (1 : Int32) else 0))]) (by decide) rfl dL_law_399 ?_
        refine JG_aload_n 2 rfl dL_law_401 ?_
        refine JG_callX8 (As := []) (rest := []) [] (w9 ++ wlo cy S (ku G 80 0 0 (if (if m.1 43 s = 0 then (1 : Int32) else 0) = 0 then 0 else 1))) dL_law_402 (c_X8_thrown hM5) rfl rfl lm_L_133 kc_yX8_thrown ki_yX8_thrown kv_yX8_thrown kd_yX8_thrown ⟨Nat.le_of_ble_eq_true rfl, Nat.le_of_ble_eq_true rfl⟩ (by show ((cells + 0) + 0) + 0 ≤ 603072; omega) (by show ((slots + 0) + 0) + 0 ≤ 7186538; omega) (Nat.le_of_ble_eq_true rfl) (fun _ w8 r6 => ?_)
        obtain ⟨rfl, I7, L7, rfl, hM7⟩ := r6
        refine JG_eq (w' := wm cy S I7 L7 R2 ++ (w9 ++ wlo cy S (ku G 80 0 0 (if (if m.1 43 s = 0 then (1 : Int32) else 0) = 0 then 0 else 1)))) (st' := [.int 0]) rfl rfl rfl ?_
        refine JG_iload 6 rfl dL_law_405 ?_
        refine JG_icmp_eq 412 (by decide) dL_law_407 (fun c8 => ?_) (fun c8 => ?_)
        rotate_left
        · exact absurd (by decide) c8
        refine JG_iload 6 rfl dL_law_412 ?_
        refine JG_if_ne 436 (by decide) dL_law_414 (fun c9 => ?_) (fun c9 => ?_)
        · exact absurd (by decide) c9
        refine JG_aload_n 3 rfl dL_law_417 ?_
        refine JG_iconst (v := 0) (by decide) dL_law_418 ?_
        refine JG_eq (w' := (wm cy S I7 L7 R2 ++ w9) ++ wlo cy S (ku G 80 0 0 (if (if m.1 43 s = 0 then (1 : Int32) else 0) = 0 then 0 else 1))) (List.append_assoc _ _ _).symm rfl rfl ?_
        refine JG_laldO dL_law_419 ?_
        refine JG_eq (w' := wm cy S I7 L7 R2 ++ (w9 ++ wlo cy S (ku G 80 0 0 (if (if m.1 43 s = 0 then (1 : Int32) else 0) = 0 then 0 else 1)))) (st' := [.long (if (if m.1 43 s = 0 then (1 : Int32) else 0) = 0 then 0 else 1)]) (List.append_assoc _ _ _) rfl (by rw [ku_eq]) ?_
        refine JG_iload 7 rfl dL_law_420 ?_
        refine JG_if_eq 429 (by decide) dL_law_422 (fun c10 => ?_) (fun c10 => ?_)
        · skip
          refine JG_lconst (v := 0) (by decide) dL_law_429 ?_
          refine JG_lcmp (by first | rw [if_pos (by assumption)] | rw [if_neg (by assumption)]) dL_law_430 ?_
          refine JG_if_eq 436 (by decide) dL_law_431 (fun c11 => ?_) (fun c11 => ?_)
          rotate_left
          · exact absurd (by decide) c11
          refine JG_goto 2268 (by decide) dL_law_436 ?_
          refine JG_sub (lv' := [(0, .ref b), (1, .ref (ka S 0 0)), (2, .ref (ka S 30 0)), (3, .ref (ka S 80 0)), (4, .ref (ka S 81 0)), (5, .int (nI z))]) [0, 1, 2, 3, 4, 5] rfl ?_
          exact kk (mSpeak (soM m s true)) _ _ _ _ _ _ _ _ ⟨LP, rc, hP⟩ (speak_inv (inv_so (b := true) hI hs) (by omega)) (by omega) hM7 (by omega) (by omega)
        · skip
          refine JG_lconst (v := 1) (by decide) dL_law_425 ?_
          refine JG_goto 430 (by decide) dL_law_426 ?_
          refine JG_lcmp (by first | rw [if_pos (by assumption)] | rw [if_neg (by assumption)]) dL_law_430 ?_
          refine JG_if_eq 436 (by decide) dL_law_431 (fun c12 => ?_) (fun c12 => ?_)
          rotate_left
          · exact absurd (by decide) c12
          refine JG_goto 2268 (by decide) dL_law_436 ?_
          refine JG_sub (lv' := [(0, .ref b), (1, .ref (ka S 0 0)), (2, .ref (ka S 30 0)), (3, .ref (ka S 80 0)), (4, .ref (ka S 81 0)), (5, .int (nI z))]) [0, 1, 2, 3, 4, 5] rfl ?_
          exact kk (mSpeak (soM m s true)) _ _ _ _ _ _ _ _ ⟨LP, rc, hP⟩ (speak_inv (inv_so (b := true) hI hs) (by omega)) (by omega) hM7 (by omega) (by omega)
      · obtain ⟨hc, hsc, -⟩ := (mHold_iff hI.2.2.2.2.1 (by have := hI.1; omega)).mp hm
        refine JG_aload_n 1 rfl dL_law_348 ?_
        refine JG_aload_n 0 rfl dL_law_349 ?_
        refine JG_iload 5 rfl dL_law_350 ?_
        refine JG_iconst (v := 1) (by decide) dL_law_352 ?_
        refine JG_iadd dL_law_353 ?_
        refine JG_topeq (nI (z + 1)) (by exact nI_add z 1) ?_
        refine JG_sld (vp_in_nI (by omega) (by omega)) dL_law_354 ?_
        refine JG_topeq (nI s) (by rw [nI_toNat (by omega)]; exact e1) ?_
        refine JG_aload_n 0 rfl dL_law_355 ?_
        refine JG_iload 5 rfl dL_law_356 ?_
        refine JG_iconst (v := 2) (by decide) dL_law_358 ?_
        refine JG_iadd dL_law_359 ?_
        refine JG_topeq (nI (z + 2)) (by exact nI_add z 2) ?_
        refine JG_sld (vp_in_nI (by omega) (by omega)) dL_law_360 ?_
        refine JG_topeq p2 (by rw [nI_toNat (by omega)]; exact e2) ?_
        refine JG_if_eq 368 (by decide) dL_law_361 (fun c1 => ?_) (fun c1 => ?_)
        · exfalso
          first | exact hz0 c1 | exact c1 hz0
        refine JG_iconst (v := 1) (by decide) dL_law_364 ?_
        refine JG_goto 369 (by decide) dL_law_365 ?_
        refine JG_aload_n 3 rfl dL_law_369 ?_
        refine JG_callH (As := [.ref (ka S 0 0), .int (nI s), .int 1, .ref (ka S 80 0)]) (rest := []) (wm cy S I2 L2 R2) [] dL_law_370 (w_setOn_s (by split <;> simp) (c_X7_setOn_1c hR hI (by omega) hlg hs hm)) (by rw [List.append_nil]) lm_L_140 kw_L_setOn kiniL ks_L_setOn kdL_setOn ⟨Nat.le_of_ble_eq_true rfl, Nat.le_of_ble_eq_true rfl⟩ (by show cells + 0 ≤ 603072; omega) (by show slots + 0 ≤ 7186538; omega) (Nat.le_of_ble_eq_true rfl) (fun _ w8 r2 => ?_)
        obtain ⟨rfl, w9, hP, rfl⟩ := r2
        refine JG_eq (w' := wm cy S I2 L2 R2 ++ (w9 ++ wlo cy S (ku G 80 0 0 (if (if m.1 43 s = 0 then (1 : Int32) else 0) = 0 then 0 else 1)))) (st' := [.int 0]) (by rw [List.append_nil]) rfl rfl ?_
        refine JG_istore (lv' := [(0, .ref b), (1, .ref (ka S 0 0)), (2, .ref (ka S 30 0)), (3, .ref (ka S 80 0)), (4, .ref (ka S 81 0)), (5, .int (nI z)), (6, .int 0)]) (by decide) rfl dL_law_373 ?_
        refine JG_aload_n 2 rfl dL_law_375 ?_
        refine JG_aload_n 0 rfl dL_law_376 ?_
        refine JG_iload 5 rfl dL_law_377 ?_
        refine JG_iconst (v := 1) (by decide) dL_law_379 ?_
        refine JG_iadd dL_law_380 ?_
        refine JG_topeq (nI (z + 1)) (by exact nI_add z 1) ?_
        refine JG_sld (vp_in_nI (by omega) (by omega)) dL_law_381 ?_
        refine JG_topeq (nI s) (by rw [nI_toNat (by omega)]; exact e1) ?_
        refine JG_aload_n 0 rfl dL_law_382 ?_
        refine JG_iload 5 rfl dL_law_383 ?_
        refine JG_iconst (v := 2) (by decide) dL_law_385 ?_
        refine JG_iadd dL_law_386 ?_
        refine JG_topeq (nI (z + 2)) (by exact nI_add z 2) ?_
        refine JG_sld (vp_in_nI (by omega) (by omega)) dL_law_387 ?_
        refine JG_topeq p2 (by rw [nI_toNat (by omega)]; exact e2) ?_
        refine JG_if_eq 395 (by decide) dL_law_388 (fun c3 => ?_) (fun c3 => ?_)
        · exfalso
          first | exact hz0 c3 | exact c3 hz0
        refine JG_iconst (v := 1) (by decide) dL_law_391 ?_
        refine JG_goto 396 (by decide) dL_law_392 ?_
        refine JG_callX8 (As := [.int (nI s), .int 1]) (rest := []) [] (w9 ++ wlo cy S (ku G 80 0 0 (if (if m.1 43 s = 0 then (1 : Int32) else 0) = 0 then 0 else 1))) dL_law_396 (c_X8_setOn_1 hM hR hI (by omega) hs) rfl rfl lm_L_143 kc_yX8_setOn ki_yX8_setOn kv_yX8_setOn kd_yX8_setOn ⟨Nat.le_of_ble_eq_true rfl, Nat.le_of_ble_eq_true rfl⟩ (by show (cells + 0) + 0 ≤ 603072; omega) (by show (slots + 0) + 0 ≤ 7186538; omega) (Nat.le_of_ble_eq_true rfl) (fun _ w8 r4 => ?_)
        obtain ⟨rfl, I5, L5, rfl, hM5⟩ := r4
        refine JG_eq (w' := wm cy S I5 L5 R2 ++ (w9 ++ wlo cy S (ku G 80 0 0 (if (if m.1 43 s = 0 then (1 : Int32) else 0) = 0 then 0 else 1)))) (st' := [.int (if m.1 43 s = 0 then (1 : Int32) else 0)]) rfl rfl rfl ?_
        refine JG_istore (lv' := [(0, .ref b), (1, .ref (ka S 0 0)), (2, .ref (ka S 30 0)), (3, .ref (ka S 80 0)), (4, .ref (ka S 81 0)), (5, .int (nI z)), (6, .int 0), (7, .int (if m.1 43 s = 0 then (1 : Int32) else 0))]) (by decide) rfl dL_law_399 ?_
        refine JG_aload_n 2 rfl dL_law_401 ?_
        refine JG_callX8 (As := []) (rest := []) [] (w9 ++ wlo cy S (ku G 80 0 0 (if (if m.1 43 s = 0 then (1 : Int32) else 0) = 0 then 0 else 1))) dL_law_402 (c_X8_thrown hM5) rfl rfl lm_L_133 kc_yX8_thrown ki_yX8_thrown kv_yX8_thrown kd_yX8_thrown ⟨Nat.le_of_ble_eq_true rfl, Nat.le_of_ble_eq_true rfl⟩ (by show ((cells + 0) + 0) + 0 ≤ 603072; omega) (by show ((slots + 0) + 0) + 0 ≤ 7186538; omega) (Nat.le_of_ble_eq_true rfl) (fun _ w8 r6 => ?_)
        obtain ⟨rfl, I7, L7, rfl, hM7⟩ := r6
        refine JG_eq (w' := wm cy S I7 L7 R2 ++ (w9 ++ wlo cy S (ku G 80 0 0 (if (if m.1 43 s = 0 then (1 : Int32) else 0) = 0 then 0 else 1)))) (st' := [.int 0]) rfl rfl rfl ?_
        refine JG_iload 6 rfl dL_law_405 ?_
        refine JG_icmp_eq 412 (by decide) dL_law_407 (fun c8 => ?_) (fun c8 => ?_)
        rotate_left
        · exact absurd (by decide) c8
        refine JG_iload 6 rfl dL_law_412 ?_
        refine JG_if_ne 436 (by decide) dL_law_414 (fun c9 => ?_) (fun c9 => ?_)
        · exact absurd (by decide) c9
        refine JG_aload_n 3 rfl dL_law_417 ?_
        refine JG_iconst (v := 0) (by decide) dL_law_418 ?_
        refine JG_eq (w' := (wm cy S I7 L7 R2 ++ w9) ++ wlo cy S (ku G 80 0 0 (if (if m.1 43 s = 0 then (1 : Int32) else 0) = 0 then 0 else 1))) (List.append_assoc _ _ _).symm rfl rfl ?_
        refine JG_laldO dL_law_419 ?_
        refine JG_eq (w' := wm cy S I7 L7 R2 ++ (w9 ++ wlo cy S (ku G 80 0 0 (if (if m.1 43 s = 0 then (1 : Int32) else 0) = 0 then 0 else 1)))) (st' := [.long (if (if m.1 43 s = 0 then (1 : Int32) else 0) = 0 then 0 else 1)]) (List.append_assoc _ _ _) rfl (by rw [ku_eq]) ?_
        refine JG_iload 7 rfl dL_law_420 ?_
        refine JG_if_eq 429 (by decide) dL_law_422 (fun c10 => ?_) (fun c10 => ?_)
        · skip
          refine JG_lconst (v := 0) (by decide) dL_law_429 ?_
          refine JG_lcmp (by first | rw [if_pos (by assumption)] | rw [if_neg (by assumption)]) dL_law_430 ?_
          refine JG_if_eq 436 (by decide) dL_law_431 (fun c11 => ?_) (fun c11 => ?_)
          rotate_left
          · exact absurd (by decide) c11
          refine JG_goto 2268 (by decide) dL_law_436 ?_
          refine JG_sub (lv' := [(0, .ref b), (1, .ref (ka S 0 0)), (2, .ref (ka S 30 0)), (3, .ref (ka S 80 0)), (4, .ref (ka S 81 0)), (5, .int (nI z))]) [0, 1, 2, 3, 4, 5] rfl ?_
          exact kk (mSpeak (soM m s true)) _ _ _ _ _ _ _ _ ⟨LP, rc, hP⟩ (speak_inv (inv_so (b := true) hI hs) (by omega)) (by omega) hM7 (by omega) (by omega)
        · skip
          refine JG_lconst (v := 1) (by decide) dL_law_425 ?_
          refine JG_goto 430 (by decide) dL_law_426 ?_
          refine JG_lcmp (by first | rw [if_pos (by assumption)] | rw [if_neg (by assumption)]) dL_law_430 ?_
          refine JG_if_eq 436 (by decide) dL_law_431 (fun c12 => ?_) (fun c12 => ?_)
          rotate_left
          · exact absurd (by decide) c12
          refine JG_goto 2268 (by decide) dL_law_436 ?_
          refine JG_sub (lv' := [(0, .ref b), (1, .ref (ka S 0 0)), (2, .ref (ka S 30 0)), (3, .ref (ka S 80 0)), (4, .ref (ka S 81 0)), (5, .int (nI z))]) [0, 1, 2, 3, 4, 5] rfl ?_
          exact kk (mSpeak (soM m s true)) _ _ _ _ _ _ _ _ ⟨LP, rc, hP⟩ (speak_inv (inv_so (b := true) hI hs) (by omega)) (by omega) hM7 (by omega) (by omega)
    · skip
      refine JG_aload_n 1 rfl dL_law_348 ?_
      refine JG_aload_n 0 rfl dL_law_349 ?_
      refine JG_iload 5 rfl dL_law_350 ?_
      refine JG_iconst (v := 1) (by decide) dL_law_352 ?_
      refine JG_iadd dL_law_353 ?_
      refine JG_topeq (nI (z + 1)) (by exact nI_add z 1) ?_
      refine JG_sld (vp_in_nI (by omega) (by omega)) dL_law_354 ?_
      refine JG_topeq p1 (by rw [nI_toNat (by omega)]; exact e1) ?_
      refine JG_aload_n 0 rfl dL_law_355 ?_
      refine JG_iload 5 rfl dL_law_356 ?_
      refine JG_iconst (v := 2) (by decide) dL_law_358 ?_
      refine JG_iadd dL_law_359 ?_
      refine JG_topeq (nI (z + 2)) (by exact nI_add z 2) ?_
      refine JG_sld (vp_in_nI (by omega) (by omega)) dL_law_360 ?_
      refine JG_topeq p2 (by rw [nI_toNat (by omega)]; exact e2) ?_
      refine JG_if_eq 368 (by decide) dL_law_361 (fun c1 => ?_) (fun c1 => ?_)
      · exfalso
        first | exact hz0 c1 | exact c1 hz0
      refine JG_iconst (v := 1) (by decide) dL_law_364 ?_
      refine JG_goto 369 (by decide) dL_law_365 ?_
      refine JG_aload_n 3 rfl dL_law_369 ?_
      refine JG_callH (As := [.ref (ka S 0 0), .int p1, .int 1, .ref (ka S 80 0)]) (rest := []) (wm cy S I2 L2 R2) [] dL_law_370 (w_setOn_1 (c_X7_setOn_x hR hI (by omega) hlg hx)) (by rw [List.append_nil]) lm_L_140 kw_L_setOn kiniL ks_L_setOn kdL_setOn ⟨Nat.le_of_ble_eq_true rfl, Nat.le_of_ble_eq_true rfl⟩ (by show cells + 1 ≤ 603072; omega) (by show slots + 6 ≤ 7186538; omega) (Nat.le_of_ble_eq_true rfl) (fun _ w8 r2 => ?_)
      obtain ⟨rfl, w9, hP, rfl⟩ := r2
      refine JG_eq (w' := wm cy S I2 L2 R2 ++ (w9 ++ wlo cy S G)) (st' := [.int 1]) (by rw [List.append_nil]) rfl rfl ?_
      refine JG_istore (lv' := [(0, .ref b), (1, .ref (ka S 0 0)), (2, .ref (ka S 30 0)), (3, .ref (ka S 80 0)), (4, .ref (ka S 81 0)), (5, .int (nI z)), (6, .int 1)]) (by decide) rfl dL_law_373 ?_
      refine JG_aload_n 2 rfl dL_law_375 ?_
      refine JG_aload_n 0 rfl dL_law_376 ?_
      refine JG_iload 5 rfl dL_law_377 ?_
      refine JG_iconst (v := 1) (by decide) dL_law_379 ?_
      refine JG_iadd dL_law_380 ?_
      refine JG_topeq (nI (z + 1)) (by exact nI_add z 1) ?_
      refine JG_sld (vp_in_nI (by omega) (by omega)) dL_law_381 ?_
      refine JG_topeq p1 (by rw [nI_toNat (by omega)]; exact e1) ?_
      refine JG_aload_n 0 rfl dL_law_382 ?_
      refine JG_iload 5 rfl dL_law_383 ?_
      refine JG_iconst (v := 2) (by decide) dL_law_385 ?_
      refine JG_iadd dL_law_386 ?_
      refine JG_topeq (nI (z + 2)) (by exact nI_add z 2) ?_
      refine JG_sld (vp_in_nI (by omega) (by omega)) dL_law_387 ?_
      refine JG_topeq p2 (by rw [nI_toNat (by omega)]; exact e2) ?_
      refine JG_if_eq 395 (by decide) dL_law_388 (fun c3 => ?_) (fun c3 => ?_)
      · exfalso
        first | exact hz0 c3 | exact c3 hz0
      refine JG_iconst (v := 1) (by decide) dL_law_391 ?_
      refine JG_goto 396 (by decide) dL_law_392 ?_
      refine JG_callX8 (As := [.int p1, .int 1]) (rest := []) [] (w9 ++ wlo cy S G) dL_law_396 (c_X8_setOn_x hM hR hI (by omega) hx) rfl rfl lm_L_143 kc_yX8_setOn ki_yX8_setOn kv_yX8_setOn kd_yX8_setOn ⟨Nat.le_of_ble_eq_true rfl, Nat.le_of_ble_eq_true rfl⟩ (by show (cells + 1) + 0 ≤ 603072; omega) (by show (slots + 6) + 0 ≤ 7186538; omega) (Nat.le_of_ble_eq_true rfl) (fun _ w8 r4 => ?_)
      obtain ⟨rfl, I5, L5, rfl, hM5⟩ := r4
      refine JG_eq (w' := wm cy S I5 L5 R2 ++ (w9 ++ wlo cy S G)) (st' := [.int 0]) rfl rfl rfl ?_
      refine JG_istore (lv' := [(0, .ref b), (1, .ref (ka S 0 0)), (2, .ref (ka S 30 0)), (3, .ref (ka S 80 0)), (4, .ref (ka S 81 0)), (5, .int (nI z)), (6, .int 1), (7, .int 0)]) (by decide) rfl dL_law_399 ?_
      refine JG_aload_n 2 rfl dL_law_401 ?_
      refine JG_callX8 (As := []) (rest := []) [] (w9 ++ wlo cy S G) dL_law_402 (c_X8_thrown hM5) rfl rfl lm_L_133 kc_yX8_thrown ki_yX8_thrown kv_yX8_thrown kd_yX8_thrown ⟨Nat.le_of_ble_eq_true rfl, Nat.le_of_ble_eq_true rfl⟩ (by show ((cells + 1) + 0) + 0 ≤ 603072; omega) (by show ((slots + 6) + 0) + 0 ≤ 7186538; omega) (Nat.le_of_ble_eq_true rfl) (fun _ w8 r6 => ?_)
      obtain ⟨rfl, I7, L7, rfl, hM7⟩ := r6
      refine JG_eq (w' := wm cy S I7 L7 R2 ++ (w9 ++ wlo cy S G)) (st' := [.int 1]) rfl rfl rfl ?_
      refine JG_iload 6 rfl dL_law_405 ?_
      refine JG_icmp_eq 412 (by decide) dL_law_407 (fun c8 => ?_) (fun c8 => ?_)
      rotate_left
      · exact absurd (by decide) c8
      refine JG_iload 6 rfl dL_law_412 ?_
      refine JG_if_ne 436 (by decide) dL_law_414 (fun c9 => ?_) (fun c9 => ?_)
      rotate_left
      · exact absurd c9 (by decide)
      refine JG_goto 2268 (by decide) dL_law_436 ?_
      refine JG_sub (lv' := [(0, .ref b), (1, .ref (ka S 0 0)), (2, .ref (ka S 30 0)), (3, .ref (ka S 80 0)), (4, .ref (ka S 81 0)), (5, .int (nI z))]) [0, 1, 2, 3, 4, 5] rfl ?_
      exact kk m _ _ _ _ _ _ _ _ ⟨LP, rc, hP⟩ hI (by omega) hM7 (by omega) (by omega)

set_option maxRecDepth 20000 in
set_option maxHeartbeats 1000000 in
theorem lc_placeOf {cy : Nat → ClassId} {S : Nat → Nat → Nat} {I I2 : kI} {L L2 G : kL} {R R2 : kRf} {LP : List Nat} {m : Mu} {rc : Nat → Nat} {ln qu : List Nat} {lg B : Nat} {cd : Int32} {b Lx z cells slots : Nat} {xs : Nat → Int32} {p1 : Int32} (hR : Rel m I L R LP rc ln qu lg) (hI : Inv m B) (hB : B + 100000 < 2 ^ 30) (hlg : lg < 2 ^ 30) (hM : MR m cd I2 L2) (hz : z + 4 < Lx) (hLx : Lx ≤ 2560) (hcl : cells + 101 ≤ 603072) (hsl : slots + 1307 ≤ 7186538) (e1 : xs (z + 1) = p1) (kk : ∀ (m' : Mu) (B' : Nat) (w9 : va_W) (I2 : kI) (L2 : kL) (cd : Int32) (G : kL) (c' s' : Nat), (∃ LP rc, RelX cy S LP rc m' w9) → Inv m' B' → B' ≤ B + 90000 → MR m' cd I2 L2 → c' ≤ cells + 100 → s' ≤ slots + 1300 → JG RL cL_law 9 cy room_1 (ExL b Lx xs) FinL 2268 [(0, .ref b), (1, .ref (ka S 0 0)), (2, .ref (ka S 30 0)), (3, .ref (ka S 80 0)), (4, .ref (ka S 81 0)), (5, .int (nI z))] [] (wm cy S I2 L2 R2 ++ (w9 ++ wlo cy S G)) c' s') : JG RL cL_law 9 cy room_1 (ExL b Lx xs) FinL 452 [(0, .ref b), (1, .ref (ka S 0 0)), (2, .ref (ka S 30 0)), (3, .ref (ka S 80 0)), (4, .ref (ka S 81 0)), (5, .int (nI z))] [] (wm cy S I2 L2 R2 ++ (wc cy S I L R LP ++ wlo cy S G)) cells slots := by
  have hl31 : lg < 2 ^ 31 := by omega
  rcases lt_or (mS m) p1 with ⟨s, hs, rfl⟩ | hx
  · skip
    refine JG_aload_n 1 rfl dL_law_452 ?_
    refine JG_aload_n 0 rfl dL_law_453 ?_
    refine JG_iload 5 rfl dL_law_454 ?_
    refine JG_iconst (v := 1) (by decide) dL_law_456 ?_
    refine JG_iadd dL_law_457 ?_
    refine JG_topeq (nI (z + 1)) (by exact nI_add z 1) ?_
    refine JG_sld (vp_in_nI (by omega) (by omega)) dL_law_458 ?_
    refine JG_topeq (nI s) (by rw [nI_toNat (by omega)]; exact e1) ?_
    refine JG_aload_n 3 rfl dL_law_459 ?_
    refine JG_callH (As := [.ref (ka S 0 0), .int (nI s), .ref (ka S 80 0)]) (rest := []) (wm cy S I2 L2 R2) [] dL_law_460 (w_placeOf_s  (c_X7_placeOf_s hR hI (by omega) hlg hs)) (by rw [List.append_nil]) lm_L_148 kw_L_placeOf kiniL ks_L_placeOf kdL_placeOf ⟨Nat.le_of_ble_eq_true rfl, Nat.le_of_ble_eq_true rfl⟩ (by show cells + 0 ≤ 603072; omega) (by show slots + 0 ≤ 7186538; omega) (Nat.le_of_ble_eq_true rfl) (fun _ w8 r1 => ?_)
    obtain ⟨rfl, w9, hP, rfl⟩ := r1
    refine JG_eq (w' := wm cy S I2 L2 R2 ++ (w9 ++ wlo cy S (ku G 80 0 0 (m.1 41 s).toInt64))) (st' := [.int 0]) (by rw [List.append_nil]) rfl rfl ?_
    refine JG_istore (lv' := [(0, .ref b), (1, .ref (ka S 0 0)), (2, .ref (ka S 30 0)), (3, .ref (ka S 80 0)), (4, .ref (ka S 81 0)), (5, .int (nI z)), (6, .int 0)]) (by decide) rfl dL_law_463 ?_
    refine JG_aload_n 2 rfl dL_law_465 ?_
    refine JG_aload_n 0 rfl dL_law_466 ?_
    refine JG_iload 5 rfl dL_law_467 ?_
    refine JG_iconst (v := 1) (by decide) dL_law_469 ?_
    refine JG_iadd dL_law_470 ?_
    refine JG_topeq (nI (z + 1)) (by exact nI_add z 1) ?_
    refine JG_sld (vp_in_nI (by omega) (by omega)) dL_law_471 ?_
    refine JG_topeq (nI s) (by rw [nI_toNat (by omega)]; exact e1) ?_
    refine JG_callX8 (As := [.int (nI s)]) (rest := []) [] (w9 ++ wlo cy S (ku G 80 0 0 (m.1 41 s).toInt64)) dL_law_472 (c_X8_placeOf_s hM hR hI (by omega) hs) rfl rfl lm_L_151 kc_yX8_placeOf ki_yX8_placeOf kv_yX8_placeOf kd_yX8_placeOf ⟨Nat.le_of_ble_eq_true rfl, Nat.le_of_ble_eq_true rfl⟩ (by show (cells + 0) + 0 ≤ 603072; omega) (by show (slots + 0) + 0 ≤ 7186538; omega) (Nat.le_of_ble_eq_true rfl) (fun _ w8 r2 => ?_)
    obtain ⟨rfl, I3, L3, rfl, hM3⟩ := r2
    refine JG_eq (w' := wm cy S I3 L3 R2 ++ (w9 ++ wlo cy S (ku G 80 0 0 (m.1 41 s).toInt64))) (st' := [.int (m.1 41 s)]) rfl rfl rfl ?_
    refine JG_istore (lv' := [(0, .ref b), (1, .ref (ka S 0 0)), (2, .ref (ka S 30 0)), (3, .ref (ka S 80 0)), (4, .ref (ka S 81 0)), (5, .int (nI z)), (6, .int 0), (7, .int (m.1 41 s))]) (by decide) rfl dL_law_475 ?_
    refine JG_aload_n 2 rfl dL_law_477 ?_
    refine JG_callX8 (As := []) (rest := []) [] (w9 ++ wlo cy S (ku G 80 0 0 (m.1 41 s).toInt64)) dL_law_478 (c_X8_thrown hM3) rfl rfl lm_L_133 kc_yX8_thrown ki_yX8_thrown kv_yX8_thrown kd_yX8_thrown ⟨Nat.le_of_ble_eq_true rfl, Nat.le_of_ble_eq_true rfl⟩ (by show ((cells + 0) + 0) + 0 ≤ 603072; omega) (by show ((slots + 0) + 0) + 0 ≤ 7186538; omega) (Nat.le_of_ble_eq_true rfl) (fun _ w8 r4 => ?_)
    obtain ⟨rfl, I5, L5, rfl, hM5⟩ := r4
    refine JG_eq (w' := wm cy S I5 L5 R2 ++ (w9 ++ wlo cy S (ku G 80 0 0 (m.1 41 s).toInt64))) (st' := [.int 0]) rfl rfl rfl ?_
    refine JG_iload 6 rfl dL_law_481 ?_
    refine JG_icmp_eq 488 (by decide) dL_law_483 (fun c6 => ?_) (fun c6 => ?_)
    rotate_left
    · exact absurd (by decide) c6
    refine JG_iload 6 rfl dL_law_488 ?_
    refine JG_if_ne 505 (by decide) dL_law_490 (fun c7 => ?_) (fun c7 => ?_)
    · exact absurd (by decide) c7
    refine JG_aload_n 3 rfl dL_law_493 ?_
    refine JG_iconst (v := 0) (by decide) dL_law_494 ?_
    refine JG_eq (w' := (wm cy S I5 L5 R2 ++ w9) ++ wlo cy S (ku G 80 0 0 (m.1 41 s).toInt64)) (List.append_assoc _ _ _).symm rfl rfl ?_
    refine JG_laldO dL_law_495 ?_
    refine JG_eq (w' := wm cy S I5 L5 R2 ++ (w9 ++ wlo cy S (ku G 80 0 0 (m.1 41 s).toInt64))) (st' := [.long (m.1 41 s).toInt64]) (List.append_assoc _ _ _) rfl (by rw [ku_eq]) ?_
    refine JG_iload 7 rfl dL_law_496 ?_
    refine JG_i2l dL_law_498 ?_
    refine JG_lcmp (rfl) dL_law_499 ?_
    refine JG_if_eq 505 (by decide) dL_law_500 (fun c8 => ?_) (fun c8 => ?_)
    rotate_left
    · exact absurd (by decide) c8
    refine JG_goto 2268 (by decide) dL_law_505 ?_
    refine JG_sub (lv' := [(0, .ref b), (1, .ref (ka S 0 0)), (2, .ref (ka S 30 0)), (3, .ref (ka S 80 0)), (4, .ref (ka S 81 0)), (5, .int (nI z))]) [0, 1, 2, 3, 4, 5] rfl ?_
    exact kk m _ _ _ _ _ _ _ _ ⟨LP, rc, hP⟩ hI (by omega) hM5 (by omega) (by omega)
  · skip
    refine JG_aload_n 1 rfl dL_law_452 ?_
    refine JG_aload_n 0 rfl dL_law_453 ?_
    refine JG_iload 5 rfl dL_law_454 ?_
    refine JG_iconst (v := 1) (by decide) dL_law_456 ?_
    refine JG_iadd dL_law_457 ?_
    refine JG_topeq (nI (z + 1)) (by exact nI_add z 1) ?_
    refine JG_sld (vp_in_nI (by omega) (by omega)) dL_law_458 ?_
    refine JG_topeq p1 (by rw [nI_toNat (by omega)]; exact e1) ?_
    refine JG_aload_n 3 rfl dL_law_459 ?_
    refine JG_callH (As := [.ref (ka S 0 0), .int p1, .ref (ka S 80 0)]) (rest := []) (wm cy S I2 L2 R2) [] dL_law_460 (w_placeOf_1 (c_X7_placeOf_x hR hI (by omega) hlg hx)) (by rw [List.append_nil]) lm_L_148 kw_L_placeOf kiniL ks_L_placeOf kdL_placeOf ⟨Nat.le_of_ble_eq_true rfl, Nat.le_of_ble_eq_true rfl⟩ (by show cells + 1 ≤ 603072; omega) (by show slots + 6 ≤ 7186538; omega) (Nat.le_of_ble_eq_true rfl) (fun _ w8 r1 => ?_)
    obtain ⟨rfl, w9, hP, rfl⟩ := r1
    refine JG_eq (w' := wm cy S I2 L2 R2 ++ (w9 ++ wlo cy S G)) (st' := [.int 1]) (by rw [List.append_nil]) rfl rfl ?_
    refine JG_istore (lv' := [(0, .ref b), (1, .ref (ka S 0 0)), (2, .ref (ka S 30 0)), (3, .ref (ka S 80 0)), (4, .ref (ka S 81 0)), (5, .int (nI z)), (6, .int 1)]) (by decide) rfl dL_law_463 ?_
    refine JG_aload_n 2 rfl dL_law_465 ?_
    refine JG_aload_n 0 rfl dL_law_466 ?_
    refine JG_iload 5 rfl dL_law_467 ?_
    refine JG_iconst (v := 1) (by decide) dL_law_469 ?_
    refine JG_iadd dL_law_470 ?_
    refine JG_topeq (nI (z + 1)) (by exact nI_add z 1) ?_
    refine JG_sld (vp_in_nI (by omega) (by omega)) dL_law_471 ?_
    refine JG_topeq p1 (by rw [nI_toNat (by omega)]; exact e1) ?_
    refine JG_callX8 (As := [.int p1]) (rest := []) [] (w9 ++ wlo cy S G) dL_law_472 (c_X8_placeOf_x hM hR hI (by omega) hx) rfl rfl lm_L_151 kc_yX8_placeOf ki_yX8_placeOf kv_yX8_placeOf kd_yX8_placeOf ⟨Nat.le_of_ble_eq_true rfl, Nat.le_of_ble_eq_true rfl⟩ (by show (cells + 1) + 0 ≤ 603072; omega) (by show (slots + 6) + 0 ≤ 7186538; omega) (Nat.le_of_ble_eq_true rfl) (fun _ w8 r2 => ?_)
    obtain ⟨rfl, I3, L3, rfl, hM3⟩ := r2
    refine JG_eq (w' := wm cy S I3 L3 R2 ++ (w9 ++ wlo cy S G)) (st' := [.int 0]) rfl rfl rfl ?_
    refine JG_istore (lv' := [(0, .ref b), (1, .ref (ka S 0 0)), (2, .ref (ka S 30 0)), (3, .ref (ka S 80 0)), (4, .ref (ka S 81 0)), (5, .int (nI z)), (6, .int 1), (7, .int 0)]) (by decide) rfl dL_law_475 ?_
    refine JG_aload_n 2 rfl dL_law_477 ?_
    refine JG_callX8 (As := []) (rest := []) [] (w9 ++ wlo cy S G) dL_law_478 (c_X8_thrown hM3) rfl rfl lm_L_133 kc_yX8_thrown ki_yX8_thrown kv_yX8_thrown kd_yX8_thrown ⟨Nat.le_of_ble_eq_true rfl, Nat.le_of_ble_eq_true rfl⟩ (by show ((cells + 1) + 0) + 0 ≤ 603072; omega) (by show ((slots + 6) + 0) + 0 ≤ 7186538; omega) (Nat.le_of_ble_eq_true rfl) (fun _ w8 r4 => ?_)
    obtain ⟨rfl, I5, L5, rfl, hM5⟩ := r4
    refine JG_eq (w' := wm cy S I5 L5 R2 ++ (w9 ++ wlo cy S G)) (st' := [.int 1]) rfl rfl rfl ?_
    refine JG_iload 6 rfl dL_law_481 ?_
    refine JG_icmp_eq 488 (by decide) dL_law_483 (fun c6 => ?_) (fun c6 => ?_)
    rotate_left
    · exact absurd (by decide) c6
    refine JG_iload 6 rfl dL_law_488 ?_
    refine JG_if_ne 505 (by decide) dL_law_490 (fun c7 => ?_) (fun c7 => ?_)
    rotate_left
    · exact absurd c7 (by decide)
    refine JG_goto 2268 (by decide) dL_law_505 ?_
    refine JG_sub (lv' := [(0, .ref b), (1, .ref (ka S 0 0)), (2, .ref (ka S 30 0)), (3, .ref (ka S 80 0)), (4, .ref (ka S 81 0)), (5, .int (nI z))]) [0, 1, 2, 3, 4, 5] rfl ?_
    exact kk m _ _ _ _ _ _ _ _ ⟨LP, rc, hP⟩ hI (by omega) hM5 (by omega) (by omega)

set_option maxRecDepth 20000 in
set_option maxHeartbeats 1000000 in
theorem lc_isOn {cy : Nat → ClassId} {S : Nat → Nat → Nat} {I I2 : kI} {L L2 G : kL} {R R2 : kRf} {LP : List Nat} {m : Mu} {rc : Nat → Nat} {ln qu : List Nat} {lg B : Nat} {cd : Int32} {b Lx z cells slots : Nat} {xs : Nat → Int32} {p1 : Int32} (hR : Rel m I L R LP rc ln qu lg) (hI : Inv m B) (hB : B + 100000 < 2 ^ 30) (hlg : lg < 2 ^ 30) (hM : MR m cd I2 L2) (hz : z + 4 < Lx) (hLx : Lx ≤ 2560) (hcl : cells + 101 ≤ 603072) (hsl : slots + 1307 ≤ 7186538) (e1 : xs (z + 1) = p1) (kk : ∀ (m' : Mu) (B' : Nat) (w9 : va_W) (I2 : kI) (L2 : kL) (cd : Int32) (G : kL) (c' s' : Nat), (∃ LP rc, RelX cy S LP rc m' w9) → Inv m' B' → B' ≤ B + 90000 → MR m' cd I2 L2 → c' ≤ cells + 100 → s' ≤ slots + 1300 → JG RL cL_law 9 cy room_1 (ExL b Lx xs) FinL 2268 [(0, .ref b), (1, .ref (ka S 0 0)), (2, .ref (ka S 30 0)), (3, .ref (ka S 80 0)), (4, .ref (ka S 81 0)), (5, .int (nI z))] [] (wm cy S I2 L2 R2 ++ (w9 ++ wlo cy S G)) c' s') : JG RL cL_law 9 cy room_1 (ExL b Lx xs) FinL 508 [(0, .ref b), (1, .ref (ka S 0 0)), (2, .ref (ka S 30 0)), (3, .ref (ka S 80 0)), (4, .ref (ka S 81 0)), (5, .int (nI z))] [] (wm cy S I2 L2 R2 ++ (wc cy S I L R LP ++ wlo cy S G)) cells slots := by
  have hl31 : lg < 2 ^ 31 := by omega
  rcases lt_or (mS m) p1 with ⟨s, hs, rfl⟩ | hx
  · skip
    refine JG_aload_n 1 rfl dL_law_508 ?_
    refine JG_aload_n 0 rfl dL_law_509 ?_
    refine JG_iload 5 rfl dL_law_510 ?_
    refine JG_iconst (v := 1) (by decide) dL_law_512 ?_
    refine JG_iadd dL_law_513 ?_
    refine JG_topeq (nI (z + 1)) (by exact nI_add z 1) ?_
    refine JG_sld (vp_in_nI (by omega) (by omega)) dL_law_514 ?_
    refine JG_topeq (nI s) (by rw [nI_toNat (by omega)]; exact e1) ?_
    refine JG_aload_n 3 rfl dL_law_515 ?_
    refine JG_callH (As := [.ref (ka S 0 0), .int (nI s), .ref (ka S 80 0)]) (rest := []) (wm cy S I2 L2 R2) [] dL_law_516 (w_isOn_s (by split <;> simp) (c_X7_isOn_s hR hI (by omega) hlg hs)) (by rw [List.append_nil]) lm_L_152 kw_L_isOn kiniL ks_L_isOn kdL_isOn ⟨Nat.le_of_ble_eq_true rfl, Nat.le_of_ble_eq_true rfl⟩ (by show cells + 0 ≤ 603072; omega) (by show slots + 0 ≤ 7186538; omega) (Nat.le_of_ble_eq_true rfl) (fun _ w8 r1 => ?_)
    obtain ⟨rfl, w9, hP, rfl⟩ := r1
    refine JG_eq (w' := wm cy S I2 L2 R2 ++ (w9 ++ wlo cy S (ku G 80 0 0 (if (if m.1 43 s = 0 then (1 : Int32) else 0) = 0 then 0 else 1)))) (st' := [.int 0]) (by rw [List.append_nil]) rfl rfl ?_
    refine JG_istore (lv' := [(0, .ref b), (1, .ref (ka S 0 0)), (2, .ref (ka S 30 0)), (3, .ref (ka S 80 0)), (4, .ref (ka S 81 0)), (5, .int (nI z)), (6, .int 0)]) (by decide) rfl dL_law_519 ?_
    refine JG_aload_n 2 rfl dL_law_521 ?_
    refine JG_aload_n 0 rfl dL_law_522 ?_
    refine JG_iload 5 rfl dL_law_523 ?_
    refine JG_iconst (v := 1) (by decide) dL_law_525 ?_
    refine JG_iadd dL_law_526 ?_
    refine JG_topeq (nI (z + 1)) (by exact nI_add z 1) ?_
    refine JG_sld (vp_in_nI (by omega) (by omega)) dL_law_527 ?_
    refine JG_topeq (nI s) (by rw [nI_toNat (by omega)]; exact e1) ?_
    refine JG_callX8 (As := [.int (nI s)]) (rest := []) [] (w9 ++ wlo cy S (ku G 80 0 0 (if (if m.1 43 s = 0 then (1 : Int32) else 0) = 0 then 0 else 1))) dL_law_528 (c_X8_isOn_s hM hR hI (by omega) hs) rfl rfl lm_L_154 kc_yX8_isOn ki_yX8_isOn kv_yX8_isOn kd_yX8_isOn ⟨Nat.le_of_ble_eq_true rfl, Nat.le_of_ble_eq_true rfl⟩ (by show (cells + 0) + 0 ≤ 603072; omega) (by show (slots + 0) + 0 ≤ 7186538; omega) (Nat.le_of_ble_eq_true rfl) (fun _ w8 r2 => ?_)
    obtain ⟨rfl, I3, L3, rfl, hM3⟩ := r2
    refine JG_eq (w' := wm cy S I3 L3 R2 ++ (w9 ++ wlo cy S (ku G 80 0 0 (if (if m.1 43 s = 0 then (1 : Int32) else 0) = 0 then 0 else 1)))) (st' := [.int (if m.1 43 s = 0 then (1 : Int32) else 0)]) rfl rfl rfl ?_
    refine JG_istore (lv' := [(0, .ref b), (1, .ref (ka S 0 0)), (2, .ref (ka S 30 0)), (3, .ref (ka S 80 0)), (4, .ref (ka S 81 0)), (5, .int (nI z)), (6, .int 0), (7, .int (if m.1 43 s = 0 then (1 : Int32) else 0))]) (by decide) rfl dL_law_531 ?_
    refine JG_aload_n 2 rfl dL_law_533 ?_
    refine JG_callX8 (As := []) (rest := []) [] (w9 ++ wlo cy S (ku G 80 0 0 (if (if m.1 43 s = 0 then (1 : Int32) else 0) = 0 then 0 else 1))) dL_law_534 (c_X8_thrown hM3) rfl rfl lm_L_133 kc_yX8_thrown ki_yX8_thrown kv_yX8_thrown kd_yX8_thrown ⟨Nat.le_of_ble_eq_true rfl, Nat.le_of_ble_eq_true rfl⟩ (by show ((cells + 0) + 0) + 0 ≤ 603072; omega) (by show ((slots + 0) + 0) + 0 ≤ 7186538; omega) (Nat.le_of_ble_eq_true rfl) (fun _ w8 r4 => ?_)
    obtain ⟨rfl, I5, L5, rfl, hM5⟩ := r4
    refine JG_eq (w' := wm cy S I5 L5 R2 ++ (w9 ++ wlo cy S (ku G 80 0 0 (if (if m.1 43 s = 0 then (1 : Int32) else 0) = 0 then 0 else 1)))) (st' := [.int 0]) rfl rfl rfl ?_
    refine JG_iload 6 rfl dL_law_537 ?_
    refine JG_icmp_eq 544 (by decide) dL_law_539 (fun c6 => ?_) (fun c6 => ?_)
    rotate_left
    · exact absurd (by decide) c6
    refine JG_iload 6 rfl dL_law_544 ?_
    refine JG_if_ne 568 (by decide) dL_law_546 (fun c7 => ?_) (fun c7 => ?_)
    · exact absurd (by decide) c7
    refine JG_aload_n 3 rfl dL_law_549 ?_
    refine JG_iconst (v := 0) (by decide) dL_law_550 ?_
    refine JG_eq (w' := (wm cy S I5 L5 R2 ++ w9) ++ wlo cy S (ku G 80 0 0 (if (if m.1 43 s = 0 then (1 : Int32) else 0) = 0 then 0 else 1))) (List.append_assoc _ _ _).symm rfl rfl ?_
    refine JG_laldO dL_law_551 ?_
    refine JG_eq (w' := wm cy S I5 L5 R2 ++ (w9 ++ wlo cy S (ku G 80 0 0 (if (if m.1 43 s = 0 then (1 : Int32) else 0) = 0 then 0 else 1)))) (st' := [.long (if (if m.1 43 s = 0 then (1 : Int32) else 0) = 0 then 0 else 1)]) (List.append_assoc _ _ _) rfl (by rw [ku_eq]) ?_
    refine JG_iload 7 rfl dL_law_552 ?_
    refine JG_if_eq 561 (by decide) dL_law_554 (fun c8 => ?_) (fun c8 => ?_)
    · skip
      refine JG_lconst (v := 0) (by decide) dL_law_561 ?_
      refine JG_lcmp (by first | rw [if_pos (by assumption)] | rw [if_neg (by assumption)]) dL_law_562 ?_
      refine JG_if_eq 568 (by decide) dL_law_563 (fun c9 => ?_) (fun c9 => ?_)
      rotate_left
      · exact absurd (by decide) c9
      refine JG_goto 2268 (by decide) dL_law_568 ?_
      refine JG_sub (lv' := [(0, .ref b), (1, .ref (ka S 0 0)), (2, .ref (ka S 30 0)), (3, .ref (ka S 80 0)), (4, .ref (ka S 81 0)), (5, .int (nI z))]) [0, 1, 2, 3, 4, 5] rfl ?_
      exact kk m _ _ _ _ _ _ _ _ ⟨LP, rc, hP⟩ hI (by omega) hM5 (by omega) (by omega)
    · skip
      refine JG_lconst (v := 1) (by decide) dL_law_557 ?_
      refine JG_goto 562 (by decide) dL_law_558 ?_
      refine JG_lcmp (by first | rw [if_pos (by assumption)] | rw [if_neg (by assumption)]) dL_law_562 ?_
      refine JG_if_eq 568 (by decide) dL_law_563 (fun c10 => ?_) (fun c10 => ?_)
      rotate_left
      · exact absurd (by decide) c10
      refine JG_goto 2268 (by decide) dL_law_568 ?_
      refine JG_sub (lv' := [(0, .ref b), (1, .ref (ka S 0 0)), (2, .ref (ka S 30 0)), (3, .ref (ka S 80 0)), (4, .ref (ka S 81 0)), (5, .int (nI z))]) [0, 1, 2, 3, 4, 5] rfl ?_
      exact kk m _ _ _ _ _ _ _ _ ⟨LP, rc, hP⟩ hI (by omega) hM5 (by omega) (by omega)
  · skip
    refine JG_aload_n 1 rfl dL_law_508 ?_
    refine JG_aload_n 0 rfl dL_law_509 ?_
    refine JG_iload 5 rfl dL_law_510 ?_
    refine JG_iconst (v := 1) (by decide) dL_law_512 ?_
    refine JG_iadd dL_law_513 ?_
    refine JG_topeq (nI (z + 1)) (by exact nI_add z 1) ?_
    refine JG_sld (vp_in_nI (by omega) (by omega)) dL_law_514 ?_
    refine JG_topeq p1 (by rw [nI_toNat (by omega)]; exact e1) ?_
    refine JG_aload_n 3 rfl dL_law_515 ?_
    refine JG_callH (As := [.ref (ka S 0 0), .int p1, .ref (ka S 80 0)]) (rest := []) (wm cy S I2 L2 R2) [] dL_law_516 (w_isOn_1 (c_X7_isOn_x hR hI (by omega) hlg hx)) (by rw [List.append_nil]) lm_L_152 kw_L_isOn kiniL ks_L_isOn kdL_isOn ⟨Nat.le_of_ble_eq_true rfl, Nat.le_of_ble_eq_true rfl⟩ (by show cells + 1 ≤ 603072; omega) (by show slots + 6 ≤ 7186538; omega) (Nat.le_of_ble_eq_true rfl) (fun _ w8 r1 => ?_)
    obtain ⟨rfl, w9, hP, rfl⟩ := r1
    refine JG_eq (w' := wm cy S I2 L2 R2 ++ (w9 ++ wlo cy S G)) (st' := [.int 1]) (by rw [List.append_nil]) rfl rfl ?_
    refine JG_istore (lv' := [(0, .ref b), (1, .ref (ka S 0 0)), (2, .ref (ka S 30 0)), (3, .ref (ka S 80 0)), (4, .ref (ka S 81 0)), (5, .int (nI z)), (6, .int 1)]) (by decide) rfl dL_law_519 ?_
    refine JG_aload_n 2 rfl dL_law_521 ?_
    refine JG_aload_n 0 rfl dL_law_522 ?_
    refine JG_iload 5 rfl dL_law_523 ?_
    refine JG_iconst (v := 1) (by decide) dL_law_525 ?_
    refine JG_iadd dL_law_526 ?_
    refine JG_topeq (nI (z + 1)) (by exact nI_add z 1) ?_
    refine JG_sld (vp_in_nI (by omega) (by omega)) dL_law_527 ?_
    refine JG_topeq p1 (by rw [nI_toNat (by omega)]; exact e1) ?_
    refine JG_callX8 (As := [.int p1]) (rest := []) [] (w9 ++ wlo cy S G) dL_law_528 (c_X8_isOn_x hM hR hI (by omega) hx) rfl rfl lm_L_154 kc_yX8_isOn ki_yX8_isOn kv_yX8_isOn kd_yX8_isOn ⟨Nat.le_of_ble_eq_true rfl, Nat.le_of_ble_eq_true rfl⟩ (by show (cells + 1) + 0 ≤ 603072; omega) (by show (slots + 6) + 0 ≤ 7186538; omega) (Nat.le_of_ble_eq_true rfl) (fun _ w8 r2 => ?_)
    obtain ⟨rfl, I3, L3, rfl, hM3⟩ := r2
    refine JG_eq (w' := wm cy S I3 L3 R2 ++ (w9 ++ wlo cy S G)) (st' := [.int 0]) rfl rfl rfl ?_
    refine JG_istore (lv' := [(0, .ref b), (1, .ref (ka S 0 0)), (2, .ref (ka S 30 0)), (3, .ref (ka S 80 0)), (4, .ref (ka S 81 0)), (5, .int (nI z)), (6, .int 1), (7, .int 0)]) (by decide) rfl dL_law_531 ?_
    refine JG_aload_n 2 rfl dL_law_533 ?_
    refine JG_callX8 (As := []) (rest := []) [] (w9 ++ wlo cy S G) dL_law_534 (c_X8_thrown hM3) rfl rfl lm_L_133 kc_yX8_thrown ki_yX8_thrown kv_yX8_thrown kd_yX8_thrown ⟨Nat.le_of_ble_eq_true rfl, Nat.le_of_ble_eq_true rfl⟩ (by show ((cells + 1) + 0) + 0 ≤ 603072; omega) (by show ((slots + 6) + 0) + 0 ≤ 7186538; omega) (Nat.le_of_ble_eq_true rfl) (fun _ w8 r4 => ?_)
    obtain ⟨rfl, I5, L5, rfl, hM5⟩ := r4
    refine JG_eq (w' := wm cy S I5 L5 R2 ++ (w9 ++ wlo cy S G)) (st' := [.int 1]) rfl rfl rfl ?_
    refine JG_iload 6 rfl dL_law_537 ?_
    refine JG_icmp_eq 544 (by decide) dL_law_539 (fun c6 => ?_) (fun c6 => ?_)
    rotate_left
    · exact absurd (by decide) c6
    refine JG_iload 6 rfl dL_law_544 ?_
    refine JG_if_ne 568 (by decide) dL_law_546 (fun c7 => ?_) (fun c7 => ?_)
    rotate_left
    · exact absurd c7 (by decide)
    refine JG_goto 2268 (by decide) dL_law_568 ?_
    refine JG_sub (lv' := [(0, .ref b), (1, .ref (ka S 0 0)), (2, .ref (ka S 30 0)), (3, .ref (ka S 80 0)), (4, .ref (ka S 81 0)), (5, .int (nI z))]) [0, 1, 2, 3, 4, 5] rfl ?_
    exact kk m _ _ _ _ _ _ _ _ ⟨LP, rc, hP⟩ hI (by omega) hM5 (by omega) (by omega)

set_option maxRecDepth 20000 in
set_option maxHeartbeats 1000000 in
theorem lc_missed {cy : Nat → ClassId} {S : Nat → Nat → Nat} {I I2 : kI} {L L2 G : kL} {R R2 : kRf} {LP : List Nat} {m : Mu} {rc : Nat → Nat} {ln qu : List Nat} {lg B : Nat} {cd : Int32} {b Lx z cells slots : Nat} {xs : Nat → Int32} {p1 : Int32} (hR : Rel m I L R LP rc ln qu lg) (hI : Inv m B) (hB : B + 100000 < 2 ^ 30) (hlg : lg < 2 ^ 30) (hM : MR m cd I2 L2) (hz : z + 4 < Lx) (hLx : Lx ≤ 2560) (hcl : cells + 101 ≤ 603072) (hsl : slots + 1307 ≤ 7186538) (e1 : xs (z + 1) = p1) (kk : ∀ (m' : Mu) (B' : Nat) (w9 : va_W) (I2 : kI) (L2 : kL) (cd : Int32) (G : kL) (c' s' : Nat), (∃ LP rc, RelX cy S LP rc m' w9) → Inv m' B' → B' ≤ B + 90000 → MR m' cd I2 L2 → c' ≤ cells + 100 → s' ≤ slots + 1300 → JG RL cL_law 9 cy room_1 (ExL b Lx xs) FinL 2268 [(0, .ref b), (1, .ref (ka S 0 0)), (2, .ref (ka S 30 0)), (3, .ref (ka S 80 0)), (4, .ref (ka S 81 0)), (5, .int (nI z))] [] (wm cy S I2 L2 R2 ++ (w9 ++ wlo cy S G)) c' s') : JG RL cL_law 9 cy room_1 (ExL b Lx xs) FinL 1861 [(0, .ref b), (1, .ref (ka S 0 0)), (2, .ref (ka S 30 0)), (3, .ref (ka S 80 0)), (4, .ref (ka S 81 0)), (5, .int (nI z))] [] (wm cy S I2 L2 R2 ++ (wc cy S I L R LP ++ wlo cy S G)) cells slots := by
  have hl31 : lg < 2 ^ 31 := by omega
  rcases lt_or (mS m) p1 with ⟨s, hs, rfl⟩ | hx
  · skip
    refine JG_aload_n 1 rfl dL_law_1861 ?_
    refine JG_aload_n 0 rfl dL_law_1862 ?_
    refine JG_iload 5 rfl dL_law_1863 ?_
    refine JG_iconst (v := 1) (by decide) dL_law_1865 ?_
    refine JG_iadd dL_law_1866 ?_
    refine JG_topeq (nI (z + 1)) (by exact nI_add z 1) ?_
    refine JG_sld (vp_in_nI (by omega) (by omega)) dL_law_1867 ?_
    refine JG_topeq (nI s) (by rw [nI_toNat (by omega)]; exact e1) ?_
    refine JG_aload_n 3 rfl dL_law_1868 ?_
    refine JG_callH (As := [.ref (ka S 0 0), .int (nI s), .ref (ka S 80 0)]) (rest := []) (wm cy S I2 L2 R2) [] dL_law_1869 (w_missed_s  (c_X7_missed_s hR hI (by omega) hlg hs)) (by rw [List.append_nil]) lm_L_230 kw_L_missed kiniL ks_L_missed kdL_missed ⟨Nat.le_of_ble_eq_true rfl, Nat.le_of_ble_eq_true rfl⟩ (by show cells + 0 ≤ 603072; omega) (by show slots + 0 ≤ 7186538; omega) (Nat.le_of_ble_eq_true rfl) (fun _ w8 r1 => ?_)
    obtain ⟨rfl, w9, hP, rfl⟩ := r1
    refine JG_eq (w' := wm cy S I2 L2 R2 ++ (w9 ++ wlo cy S (ku G 80 0 0 (m.1 46 s).toInt64))) (st' := [.int 0]) (by rw [List.append_nil]) rfl rfl ?_
    refine JG_istore (lv' := [(0, .ref b), (1, .ref (ka S 0 0)), (2, .ref (ka S 30 0)), (3, .ref (ka S 80 0)), (4, .ref (ka S 81 0)), (5, .int (nI z)), (6, .int 0)]) (by decide) rfl dL_law_1872 ?_
    refine JG_aload_n 2 rfl dL_law_1874 ?_
    refine JG_aload_n 0 rfl dL_law_1875 ?_
    refine JG_iload 5 rfl dL_law_1876 ?_
    refine JG_iconst (v := 1) (by decide) dL_law_1878 ?_
    refine JG_iadd dL_law_1879 ?_
    refine JG_topeq (nI (z + 1)) (by exact nI_add z 1) ?_
    refine JG_sld (vp_in_nI (by omega) (by omega)) dL_law_1880 ?_
    refine JG_topeq (nI s) (by rw [nI_toNat (by omega)]; exact e1) ?_
    refine JG_callX8 (As := [.int (nI s)]) (rest := []) [] (w9 ++ wlo cy S (ku G 80 0 0 (m.1 46 s).toInt64)) dL_law_1881 (c_X8_missed_s hM hR hI (by omega) hs) rfl rfl lm_L_232 kc_yX8_missed ki_yX8_missed kv_yX8_missed kd_yX8_missed ⟨Nat.le_of_ble_eq_true rfl, Nat.le_of_ble_eq_true rfl⟩ (by show (cells + 0) + 0 ≤ 603072; omega) (by show (slots + 0) + 0 ≤ 7186538; omega) (Nat.le_of_ble_eq_true rfl) (fun _ w8 r2 => ?_)
    obtain ⟨rfl, I3, L3, rfl, hM3⟩ := r2
    refine JG_eq (w' := wm cy S I3 L3 R2 ++ (w9 ++ wlo cy S (ku G 80 0 0 (m.1 46 s).toInt64))) (st' := [.int (m.1 46 s)]) rfl rfl rfl ?_
    refine JG_istore (lv' := [(0, .ref b), (1, .ref (ka S 0 0)), (2, .ref (ka S 30 0)), (3, .ref (ka S 80 0)), (4, .ref (ka S 81 0)), (5, .int (nI z)), (6, .int 0), (7, .int (m.1 46 s))]) (by decide) rfl dL_law_1884 ?_
    refine JG_aload_n 2 rfl dL_law_1886 ?_
    refine JG_callX8 (As := []) (rest := []) [] (w9 ++ wlo cy S (ku G 80 0 0 (m.1 46 s).toInt64)) dL_law_1887 (c_X8_thrown hM3) rfl rfl lm_L_133 kc_yX8_thrown ki_yX8_thrown kv_yX8_thrown kd_yX8_thrown ⟨Nat.le_of_ble_eq_true rfl, Nat.le_of_ble_eq_true rfl⟩ (by show ((cells + 0) + 0) + 0 ≤ 603072; omega) (by show ((slots + 0) + 0) + 0 ≤ 7186538; omega) (Nat.le_of_ble_eq_true rfl) (fun _ w8 r4 => ?_)
    obtain ⟨rfl, I5, L5, rfl, hM5⟩ := r4
    refine JG_eq (w' := wm cy S I5 L5 R2 ++ (w9 ++ wlo cy S (ku G 80 0 0 (m.1 46 s).toInt64))) (st' := [.int 0]) rfl rfl rfl ?_
    refine JG_iload 6 rfl dL_law_1890 ?_
    refine JG_icmp_eq 1897 (by decide) dL_law_1892 (fun c6 => ?_) (fun c6 => ?_)
    rotate_left
    · exact absurd (by decide) c6
    refine JG_iload 6 rfl dL_law_1897 ?_
    refine JG_if_ne 1914 (by decide) dL_law_1899 (fun c7 => ?_) (fun c7 => ?_)
    · exact absurd (by decide) c7
    refine JG_aload_n 3 rfl dL_law_1902 ?_
    refine JG_iconst (v := 0) (by decide) dL_law_1903 ?_
    refine JG_eq (w' := (wm cy S I5 L5 R2 ++ w9) ++ wlo cy S (ku G 80 0 0 (m.1 46 s).toInt64)) (List.append_assoc _ _ _).symm rfl rfl ?_
    refine JG_laldO dL_law_1904 ?_
    refine JG_eq (w' := wm cy S I5 L5 R2 ++ (w9 ++ wlo cy S (ku G 80 0 0 (m.1 46 s).toInt64))) (st' := [.long (m.1 46 s).toInt64]) (List.append_assoc _ _ _) rfl (by rw [ku_eq]) ?_
    refine JG_iload 7 rfl dL_law_1905 ?_
    refine JG_i2l dL_law_1907 ?_
    refine JG_lcmp (rfl) dL_law_1908 ?_
    refine JG_if_eq 1914 (by decide) dL_law_1909 (fun c8 => ?_) (fun c8 => ?_)
    rotate_left
    · exact absurd (by decide) c8
    refine JG_goto 2268 (by decide) dL_law_1914 ?_
    refine JG_sub (lv' := [(0, .ref b), (1, .ref (ka S 0 0)), (2, .ref (ka S 30 0)), (3, .ref (ka S 80 0)), (4, .ref (ka S 81 0)), (5, .int (nI z))]) [0, 1, 2, 3, 4, 5] rfl ?_
    exact kk m _ _ _ _ _ _ _ _ ⟨LP, rc, hP⟩ hI (by omega) hM5 (by omega) (by omega)
  · skip
    refine JG_aload_n 1 rfl dL_law_1861 ?_
    refine JG_aload_n 0 rfl dL_law_1862 ?_
    refine JG_iload 5 rfl dL_law_1863 ?_
    refine JG_iconst (v := 1) (by decide) dL_law_1865 ?_
    refine JG_iadd dL_law_1866 ?_
    refine JG_topeq (nI (z + 1)) (by exact nI_add z 1) ?_
    refine JG_sld (vp_in_nI (by omega) (by omega)) dL_law_1867 ?_
    refine JG_topeq p1 (by rw [nI_toNat (by omega)]; exact e1) ?_
    refine JG_aload_n 3 rfl dL_law_1868 ?_
    refine JG_callH (As := [.ref (ka S 0 0), .int p1, .ref (ka S 80 0)]) (rest := []) (wm cy S I2 L2 R2) [] dL_law_1869 (w_missed_1 (c_X7_missed_x hR hI (by omega) hlg hx)) (by rw [List.append_nil]) lm_L_230 kw_L_missed kiniL ks_L_missed kdL_missed ⟨Nat.le_of_ble_eq_true rfl, Nat.le_of_ble_eq_true rfl⟩ (by show cells + 1 ≤ 603072; omega) (by show slots + 6 ≤ 7186538; omega) (Nat.le_of_ble_eq_true rfl) (fun _ w8 r1 => ?_)
    obtain ⟨rfl, w9, hP, rfl⟩ := r1
    refine JG_eq (w' := wm cy S I2 L2 R2 ++ (w9 ++ wlo cy S G)) (st' := [.int 1]) (by rw [List.append_nil]) rfl rfl ?_
    refine JG_istore (lv' := [(0, .ref b), (1, .ref (ka S 0 0)), (2, .ref (ka S 30 0)), (3, .ref (ka S 80 0)), (4, .ref (ka S 81 0)), (5, .int (nI z)), (6, .int 1)]) (by decide) rfl dL_law_1872 ?_
    refine JG_aload_n 2 rfl dL_law_1874 ?_
    refine JG_aload_n 0 rfl dL_law_1875 ?_
    refine JG_iload 5 rfl dL_law_1876 ?_
    refine JG_iconst (v := 1) (by decide) dL_law_1878 ?_
    refine JG_iadd dL_law_1879 ?_
    refine JG_topeq (nI (z + 1)) (by exact nI_add z 1) ?_
    refine JG_sld (vp_in_nI (by omega) (by omega)) dL_law_1880 ?_
    refine JG_topeq p1 (by rw [nI_toNat (by omega)]; exact e1) ?_
    refine JG_callX8 (As := [.int p1]) (rest := []) [] (w9 ++ wlo cy S G) dL_law_1881 (c_X8_missed_x hM hR hI (by omega) hx) rfl rfl lm_L_232 kc_yX8_missed ki_yX8_missed kv_yX8_missed kd_yX8_missed ⟨Nat.le_of_ble_eq_true rfl, Nat.le_of_ble_eq_true rfl⟩ (by show (cells + 1) + 0 ≤ 603072; omega) (by show (slots + 6) + 0 ≤ 7186538; omega) (Nat.le_of_ble_eq_true rfl) (fun _ w8 r2 => ?_)
    obtain ⟨rfl, I3, L3, rfl, hM3⟩ := r2
    refine JG_eq (w' := wm cy S I3 L3 R2 ++ (w9 ++ wlo cy S G)) (st' := [.int 0]) rfl rfl rfl ?_
    refine JG_istore (lv' := [(0, .ref b), (1, .ref (ka S 0 0)), (2, .ref (ka S 30 0)), (3, .ref (ka S 80 0)), (4, .ref (ka S 81 0)), (5, .int (nI z)), (6, .int 1), (7, .int 0)]) (by decide) rfl dL_law_1884 ?_
    refine JG_aload_n 2 rfl dL_law_1886 ?_
    refine JG_callX8 (As := []) (rest := []) [] (w9 ++ wlo cy S G) dL_law_1887 (c_X8_thrown hM3) rfl rfl lm_L_133 kc_yX8_thrown ki_yX8_thrown kv_yX8_thrown kd_yX8_thrown ⟨Nat.le_of_ble_eq_true rfl, Nat.le_of_ble_eq_true rfl⟩ (by show ((cells + 1) + 0) + 0 ≤ 603072; omega) (by show ((slots + 6) + 0) + 0 ≤ 7186538; omega) (Nat.le_of_ble_eq_true rfl) (fun _ w8 r4 => ?_)
    obtain ⟨rfl, I5, L5, rfl, hM5⟩ := r4
    refine JG_eq (w' := wm cy S I5 L5 R2 ++ (w9 ++ wlo cy S G)) (st' := [.int 1]) rfl rfl rfl ?_
    refine JG_iload 6 rfl dL_law_1890 ?_
    refine JG_icmp_eq 1897 (by decide) dL_law_1892 (fun c6 => ?_) (fun c6 => ?_)
    rotate_left
    · exact absurd (by decide) c6
    refine JG_iload 6 rfl dL_law_1897 ?_
    refine JG_if_ne 1914 (by decide) dL_law_1899 (fun c7 => ?_) (fun c7 => ?_)
    rotate_left
    · exact absurd c7 (by decide)
    refine JG_goto 2268 (by decide) dL_law_1914 ?_
    refine JG_sub (lv' := [(0, .ref b), (1, .ref (ka S 0 0)), (2, .ref (ka S 30 0)), (3, .ref (ka S 80 0)), (4, .ref (ka S 81 0)), (5, .int (nI z))]) [0, 1, 2, 3, 4, 5] rfl ?_
    exact kk m _ _ _ _ _ _ _ _ ⟨LP, rc, hP⟩ hI (by omega) hM5 (by omega) (by omega)

set_option maxRecDepth 20000 in
set_option maxHeartbeats 1000000 in
theorem lc_stateOf {cy : Nat → ClassId} {S : Nat → Nat → Nat} {I I2 : kI} {L L2 G : kL} {R R2 : kRf} {LP : List Nat} {m : Mu} {rc : Nat → Nat} {ln qu : List Nat} {lg B : Nat} {cd : Int32} {b Lx z cells slots : Nat} {xs : Nat → Int32} {p1 : Int32} (hR : Rel m I L R LP rc ln qu lg) (hI : Inv m B) (hB : B + 100000 < 2 ^ 30) (hlg : lg < 2 ^ 30) (hM : MR m cd I2 L2) (hz : z + 4 < Lx) (hLx : Lx ≤ 2560) (hcl : cells + 101 ≤ 603072) (hsl : slots + 1307 ≤ 7186538) (e1 : xs (z + 1) = p1) (kk : ∀ (m' : Mu) (B' : Nat) (w9 : va_W) (I2 : kI) (L2 : kL) (cd : Int32) (G : kL) (c' s' : Nat), (∃ LP rc, RelX cy S LP rc m' w9) → Inv m' B' → B' ≤ B + 90000 → MR m' cd I2 L2 → c' ≤ cells + 100 → s' ≤ slots + 1300 → JG RL cL_law 9 cy room_1 (ExL b Lx xs) FinL 2268 [(0, .ref b), (1, .ref (ka S 0 0)), (2, .ref (ka S 30 0)), (3, .ref (ka S 80 0)), (4, .ref (ka S 81 0)), (5, .int (nI z))] [] (wm cy S I2 L2 R2 ++ (w9 ++ wlo cy S G)) c' s') : JG RL cL_law 9 cy room_1 (ExL b Lx xs) FinL 1138 [(0, .ref b), (1, .ref (ka S 0 0)), (2, .ref (ka S 30 0)), (3, .ref (ka S 80 0)), (4, .ref (ka S 81 0)), (5, .int (nI z))] [] (wm cy S I2 L2 R2 ++ (wc cy S I L R LP ++ wlo cy S G)) cells slots := by
  have hl31 : lg < 2 ^ 31 := by omega
  rcases lt_or (mC m) p1 with ⟨i, hi, rfl⟩ | hx
  · skip
    refine JG_aload_n 1 rfl dL_law_1138 ?_
    refine JG_aload_n 0 rfl dL_law_1139 ?_
    refine JG_iload 5 rfl dL_law_1140 ?_
    refine JG_iconst (v := 1) (by decide) dL_law_1142 ?_
    refine JG_iadd dL_law_1143 ?_
    refine JG_topeq (nI (z + 1)) (by exact nI_add z 1) ?_
    refine JG_sld (vp_in_nI (by omega) (by omega)) dL_law_1144 ?_
    refine JG_topeq (nI i) (by rw [nI_toNat (by omega)]; exact e1) ?_
    refine JG_aload_n 3 rfl dL_law_1145 ?_
    refine JG_callH (As := [.ref (ka S 0 0), .int (nI i), .ref (ka S 80 0)]) (rest := []) (wm cy S I2 L2 R2) [] dL_law_1146 (w_stateOf_s  (c_X7_stateOf_s hR hI (by omega) hlg hi)) (by rw [List.append_nil]) lm_L_182 kw_L_stateOf kiniL ks_L_stateOf kdL_stateOf ⟨Nat.le_of_ble_eq_true rfl, Nat.le_of_ble_eq_true rfl⟩ (by show cells + 0 ≤ 603072; omega) (by show slots + 0 ≤ 7186538; omega) (Nat.le_of_ble_eq_true rfl) (fun _ w8 r1 => ?_)
    obtain ⟨rfl, w9, hP, rfl⟩ := r1
    refine JG_eq (w' := wm cy S I2 L2 R2 ++ (w9 ++ wlo cy S (ku G 80 0 0 (m.1 55 i).toInt64))) (st' := [.int 0]) (by rw [List.append_nil]) rfl rfl ?_
    refine JG_istore (lv' := [(0, .ref b), (1, .ref (ka S 0 0)), (2, .ref (ka S 30 0)), (3, .ref (ka S 80 0)), (4, .ref (ka S 81 0)), (5, .int (nI z)), (6, .int 0)]) (by decide) rfl dL_law_1149 ?_
    refine JG_aload_n 2 rfl dL_law_1151 ?_
    refine JG_aload_n 0 rfl dL_law_1152 ?_
    refine JG_iload 5 rfl dL_law_1153 ?_
    refine JG_iconst (v := 1) (by decide) dL_law_1155 ?_
    refine JG_iadd dL_law_1156 ?_
    refine JG_topeq (nI (z + 1)) (by exact nI_add z 1) ?_
    refine JG_sld (vp_in_nI (by omega) (by omega)) dL_law_1157 ?_
    refine JG_topeq (nI i) (by rw [nI_toNat (by omega)]; exact e1) ?_
    refine JG_callX8 (As := [.int (nI i)]) (rest := []) [] (w9 ++ wlo cy S (ku G 80 0 0 (m.1 55 i).toInt64)) dL_law_1158 (c_X8_stateOf_s hM hR hI (by omega) hi) rfl rfl lm_L_184 kc_yX8_stateOf ki_yX8_stateOf kv_yX8_stateOf kd_yX8_stateOf ⟨Nat.le_of_ble_eq_true rfl, Nat.le_of_ble_eq_true rfl⟩ (by show (cells + 0) + 0 ≤ 603072; omega) (by show (slots + 0) + 0 ≤ 7186538; omega) (Nat.le_of_ble_eq_true rfl) (fun _ w8 r2 => ?_)
    obtain ⟨rfl, I3, L3, rfl, hM3⟩ := r2
    refine JG_eq (w' := wm cy S I3 L3 R2 ++ (w9 ++ wlo cy S (ku G 80 0 0 (m.1 55 i).toInt64))) (st' := [.int (m.1 55 i)]) rfl rfl rfl ?_
    refine JG_istore (lv' := [(0, .ref b), (1, .ref (ka S 0 0)), (2, .ref (ka S 30 0)), (3, .ref (ka S 80 0)), (4, .ref (ka S 81 0)), (5, .int (nI z)), (6, .int 0), (7, .int (m.1 55 i))]) (by decide) rfl dL_law_1161 ?_
    refine JG_aload_n 2 rfl dL_law_1163 ?_
    refine JG_callX8 (As := []) (rest := []) [] (w9 ++ wlo cy S (ku G 80 0 0 (m.1 55 i).toInt64)) dL_law_1164 (c_X8_thrown hM3) rfl rfl lm_L_133 kc_yX8_thrown ki_yX8_thrown kv_yX8_thrown kd_yX8_thrown ⟨Nat.le_of_ble_eq_true rfl, Nat.le_of_ble_eq_true rfl⟩ (by show ((cells + 0) + 0) + 0 ≤ 603072; omega) (by show ((slots + 0) + 0) + 0 ≤ 7186538; omega) (Nat.le_of_ble_eq_true rfl) (fun _ w8 r4 => ?_)
    obtain ⟨rfl, I5, L5, rfl, hM5⟩ := r4
    refine JG_eq (w' := wm cy S I5 L5 R2 ++ (w9 ++ wlo cy S (ku G 80 0 0 (m.1 55 i).toInt64))) (st' := [.int 0]) rfl rfl rfl ?_
    refine JG_iload 6 rfl dL_law_1167 ?_
    refine JG_icmp_eq 1174 (by decide) dL_law_1169 (fun c6 => ?_) (fun c6 => ?_)
    rotate_left
    · exact absurd (by decide) c6
    refine JG_iload 6 rfl dL_law_1174 ?_
    refine JG_if_ne 1191 (by decide) dL_law_1176 (fun c7 => ?_) (fun c7 => ?_)
    · exact absurd (by decide) c7
    refine JG_aload_n 3 rfl dL_law_1179 ?_
    refine JG_iconst (v := 0) (by decide) dL_law_1180 ?_
    refine JG_eq (w' := (wm cy S I5 L5 R2 ++ w9) ++ wlo cy S (ku G 80 0 0 (m.1 55 i).toInt64)) (List.append_assoc _ _ _).symm rfl rfl ?_
    refine JG_laldO dL_law_1181 ?_
    refine JG_eq (w' := wm cy S I5 L5 R2 ++ (w9 ++ wlo cy S (ku G 80 0 0 (m.1 55 i).toInt64))) (st' := [.long (m.1 55 i).toInt64]) (List.append_assoc _ _ _) rfl (by rw [ku_eq]) ?_
    refine JG_iload 7 rfl dL_law_1182 ?_
    refine JG_i2l dL_law_1184 ?_
    refine JG_lcmp (rfl) dL_law_1185 ?_
    refine JG_if_eq 1191 (by decide) dL_law_1186 (fun c8 => ?_) (fun c8 => ?_)
    rotate_left
    · exact absurd (by decide) c8
    refine JG_goto 2268 (by decide) dL_law_1191 ?_
    refine JG_sub (lv' := [(0, .ref b), (1, .ref (ka S 0 0)), (2, .ref (ka S 30 0)), (3, .ref (ka S 80 0)), (4, .ref (ka S 81 0)), (5, .int (nI z))]) [0, 1, 2, 3, 4, 5] rfl ?_
    exact kk m _ _ _ _ _ _ _ _ ⟨LP, rc, hP⟩ hI (by omega) hM5 (by omega) (by omega)
  · skip
    refine JG_aload_n 1 rfl dL_law_1138 ?_
    refine JG_aload_n 0 rfl dL_law_1139 ?_
    refine JG_iload 5 rfl dL_law_1140 ?_
    refine JG_iconst (v := 1) (by decide) dL_law_1142 ?_
    refine JG_iadd dL_law_1143 ?_
    refine JG_topeq (nI (z + 1)) (by exact nI_add z 1) ?_
    refine JG_sld (vp_in_nI (by omega) (by omega)) dL_law_1144 ?_
    refine JG_topeq p1 (by rw [nI_toNat (by omega)]; exact e1) ?_
    refine JG_aload_n 3 rfl dL_law_1145 ?_
    refine JG_callH (As := [.ref (ka S 0 0), .int p1, .ref (ka S 80 0)]) (rest := []) (wm cy S I2 L2 R2) [] dL_law_1146 (w_stateOf_1 (c_X7_stateOf_x hR hI (by omega) hlg hx)) (by rw [List.append_nil]) lm_L_182 kw_L_stateOf kiniL ks_L_stateOf kdL_stateOf ⟨Nat.le_of_ble_eq_true rfl, Nat.le_of_ble_eq_true rfl⟩ (by show cells + 1 ≤ 603072; omega) (by show slots + 6 ≤ 7186538; omega) (Nat.le_of_ble_eq_true rfl) (fun _ w8 r1 => ?_)
    obtain ⟨rfl, w9, hP, rfl⟩ := r1
    refine JG_eq (w' := wm cy S I2 L2 R2 ++ (w9 ++ wlo cy S G)) (st' := [.int 1]) (by rw [List.append_nil]) rfl rfl ?_
    refine JG_istore (lv' := [(0, .ref b), (1, .ref (ka S 0 0)), (2, .ref (ka S 30 0)), (3, .ref (ka S 80 0)), (4, .ref (ka S 81 0)), (5, .int (nI z)), (6, .int 1)]) (by decide) rfl dL_law_1149 ?_
    refine JG_aload_n 2 rfl dL_law_1151 ?_
    refine JG_aload_n 0 rfl dL_law_1152 ?_
    refine JG_iload 5 rfl dL_law_1153 ?_
    refine JG_iconst (v := 1) (by decide) dL_law_1155 ?_
    refine JG_iadd dL_law_1156 ?_
    refine JG_topeq (nI (z + 1)) (by exact nI_add z 1) ?_
    refine JG_sld (vp_in_nI (by omega) (by omega)) dL_law_1157 ?_
    refine JG_topeq p1 (by rw [nI_toNat (by omega)]; exact e1) ?_
    refine JG_callX8 (As := [.int p1]) (rest := []) [] (w9 ++ wlo cy S G) dL_law_1158 (c_X8_stateOf_x hM hR hI (by omega) hx) rfl rfl lm_L_184 kc_yX8_stateOf ki_yX8_stateOf kv_yX8_stateOf kd_yX8_stateOf ⟨Nat.le_of_ble_eq_true rfl, Nat.le_of_ble_eq_true rfl⟩ (by show (cells + 1) + 0 ≤ 603072; omega) (by show (slots + 6) + 0 ≤ 7186538; omega) (Nat.le_of_ble_eq_true rfl) (fun _ w8 r2 => ?_)
    obtain ⟨rfl, I3, L3, rfl, hM3⟩ := r2
    refine JG_eq (w' := wm cy S I3 L3 R2 ++ (w9 ++ wlo cy S G)) (st' := [.int 97]) rfl rfl rfl ?_
    refine JG_istore (lv' := [(0, .ref b), (1, .ref (ka S 0 0)), (2, .ref (ka S 30 0)), (3, .ref (ka S 80 0)), (4, .ref (ka S 81 0)), (5, .int (nI z)), (6, .int 1), (7, .int 97)]) (by decide) rfl dL_law_1161 ?_
    refine JG_aload_n 2 rfl dL_law_1163 ?_
    refine JG_callX8 (As := []) (rest := []) [] (w9 ++ wlo cy S G) dL_law_1164 (c_X8_thrown hM3) rfl rfl lm_L_133 kc_yX8_thrown ki_yX8_thrown kv_yX8_thrown kd_yX8_thrown ⟨Nat.le_of_ble_eq_true rfl, Nat.le_of_ble_eq_true rfl⟩ (by show ((cells + 1) + 0) + 0 ≤ 603072; omega) (by show ((slots + 6) + 0) + 0 ≤ 7186538; omega) (Nat.le_of_ble_eq_true rfl) (fun _ w8 r4 => ?_)
    obtain ⟨rfl, I5, L5, rfl, hM5⟩ := r4
    refine JG_eq (w' := wm cy S I5 L5 R2 ++ (w9 ++ wlo cy S G)) (st' := [.int 1]) rfl rfl rfl ?_
    refine JG_iload 6 rfl dL_law_1167 ?_
    refine JG_icmp_eq 1174 (by decide) dL_law_1169 (fun c6 => ?_) (fun c6 => ?_)
    rotate_left
    · exact absurd (by decide) c6
    refine JG_iload 6 rfl dL_law_1174 ?_
    refine JG_if_ne 1191 (by decide) dL_law_1176 (fun c7 => ?_) (fun c7 => ?_)
    rotate_left
    · exact absurd c7 (by decide)
    refine JG_goto 2268 (by decide) dL_law_1191 ?_
    refine JG_sub (lv' := [(0, .ref b), (1, .ref (ka S 0 0)), (2, .ref (ka S 30 0)), (3, .ref (ka S 80 0)), (4, .ref (ka S 81 0)), (5, .int (nI z))]) [0, 1, 2, 3, 4, 5] rfl ?_
    exact kk m _ _ _ _ _ _ _ _ ⟨LP, rc, hP⟩ hI (by omega) hM5 (by omega) (by omega)

set_option maxRecDepth 20000 in
set_option maxHeartbeats 1000000 in
theorem lc_urgencyOf {cy : Nat → ClassId} {S : Nat → Nat → Nat} {I I2 : kI} {L L2 G : kL} {R R2 : kRf} {LP : List Nat} {m : Mu} {rc : Nat → Nat} {ln qu : List Nat} {lg B : Nat} {cd : Int32} {b Lx z cells slots : Nat} {xs : Nat → Int32} {p1 : Int32} (hR : Rel m I L R LP rc ln qu lg) (hI : Inv m B) (hB : B + 100000 < 2 ^ 30) (hlg : lg < 2 ^ 30) (hM : MR m cd I2 L2) (hz : z + 4 < Lx) (hLx : Lx ≤ 2560) (hcl : cells + 101 ≤ 603072) (hsl : slots + 1307 ≤ 7186538) (e1 : xs (z + 1) = p1) (kk : ∀ (m' : Mu) (B' : Nat) (w9 : va_W) (I2 : kI) (L2 : kL) (cd : Int32) (G : kL) (c' s' : Nat), (∃ LP rc, RelX cy S LP rc m' w9) → Inv m' B' → B' ≤ B + 90000 → MR m' cd I2 L2 → c' ≤ cells + 100 → s' ≤ slots + 1300 → JG RL cL_law 9 cy room_1 (ExL b Lx xs) FinL 2268 [(0, .ref b), (1, .ref (ka S 0 0)), (2, .ref (ka S 30 0)), (3, .ref (ka S 80 0)), (4, .ref (ka S 81 0)), (5, .int (nI z))] [] (wm cy S I2 L2 R2 ++ (w9 ++ wlo cy S G)) c' s') : JG RL cL_law 9 cy room_1 (ExL b Lx xs) FinL 1194 [(0, .ref b), (1, .ref (ka S 0 0)), (2, .ref (ka S 30 0)), (3, .ref (ka S 80 0)), (4, .ref (ka S 81 0)), (5, .int (nI z))] [] (wm cy S I2 L2 R2 ++ (wc cy S I L R LP ++ wlo cy S G)) cells slots := by
  have hl31 : lg < 2 ^ 31 := by omega
  rcases lt_or (mC m) p1 with ⟨i, hi, rfl⟩ | hx
  · skip
    refine JG_aload_n 1 rfl dL_law_1194 ?_
    refine JG_aload_n 0 rfl dL_law_1195 ?_
    refine JG_iload 5 rfl dL_law_1196 ?_
    refine JG_iconst (v := 1) (by decide) dL_law_1198 ?_
    refine JG_iadd dL_law_1199 ?_
    refine JG_topeq (nI (z + 1)) (by exact nI_add z 1) ?_
    refine JG_sld (vp_in_nI (by omega) (by omega)) dL_law_1200 ?_
    refine JG_topeq (nI i) (by rw [nI_toNat (by omega)]; exact e1) ?_
    refine JG_aload_n 3 rfl dL_law_1201 ?_
    refine JG_callH (As := [.ref (ka S 0 0), .int (nI i), .ref (ka S 80 0)]) (rest := []) (wm cy S I2 L2 R2) [] dL_law_1202 (w_urgencyOf_s  (c_X7_urgencyOf_s hR hI (by omega) hlg hi)) (by rw [List.append_nil]) lm_L_185 kw_L_urgencyOf kiniL ks_L_urgencyOf kdL_urgencyOf ⟨Nat.le_of_ble_eq_true rfl, Nat.le_of_ble_eq_true rfl⟩ (by show cells + 0 ≤ 603072; omega) (by show slots + 0 ≤ 7186538; omega) (Nat.le_of_ble_eq_true rfl) (fun _ w8 r1 => ?_)
    obtain ⟨rfl, w9, hP, rfl⟩ := r1
    refine JG_eq (w' := wm cy S I2 L2 R2 ++ (w9 ++ wlo cy S (ku G 80 0 0 (m.1 53 i).toInt64))) (st' := [.int 0]) (by rw [List.append_nil]) rfl rfl ?_
    refine JG_istore (lv' := [(0, .ref b), (1, .ref (ka S 0 0)), (2, .ref (ka S 30 0)), (3, .ref (ka S 80 0)), (4, .ref (ka S 81 0)), (5, .int (nI z)), (6, .int 0)]) (by decide) rfl dL_law_1205 ?_
    refine JG_aload_n 2 rfl dL_law_1207 ?_
    refine JG_aload_n 0 rfl dL_law_1208 ?_
    refine JG_iload 5 rfl dL_law_1209 ?_
    refine JG_iconst (v := 1) (by decide) dL_law_1211 ?_
    refine JG_iadd dL_law_1212 ?_
    refine JG_topeq (nI (z + 1)) (by exact nI_add z 1) ?_
    refine JG_sld (vp_in_nI (by omega) (by omega)) dL_law_1213 ?_
    refine JG_topeq (nI i) (by rw [nI_toNat (by omega)]; exact e1) ?_
    refine JG_callX8 (As := [.int (nI i)]) (rest := []) [] (w9 ++ wlo cy S (ku G 80 0 0 (m.1 53 i).toInt64)) dL_law_1214 (c_X8_urgencyOf_s hM hR hI (by omega) hi) rfl rfl lm_L_187 kc_yX8_urgencyOf ki_yX8_urgencyOf kv_yX8_urgencyOf kd_yX8_urgencyOf ⟨Nat.le_of_ble_eq_true rfl, Nat.le_of_ble_eq_true rfl⟩ (by show (cells + 0) + 0 ≤ 603072; omega) (by show (slots + 0) + 0 ≤ 7186538; omega) (Nat.le_of_ble_eq_true rfl) (fun _ w8 r2 => ?_)
    obtain ⟨rfl, I3, L3, rfl, hM3⟩ := r2
    refine JG_eq (w' := wm cy S I3 L3 R2 ++ (w9 ++ wlo cy S (ku G 80 0 0 (m.1 53 i).toInt64))) (st' := [.int (m.1 53 i)]) rfl rfl rfl ?_
    refine JG_istore (lv' := [(0, .ref b), (1, .ref (ka S 0 0)), (2, .ref (ka S 30 0)), (3, .ref (ka S 80 0)), (4, .ref (ka S 81 0)), (5, .int (nI z)), (6, .int 0), (7, .int (m.1 53 i))]) (by decide) rfl dL_law_1217 ?_
    refine JG_aload_n 2 rfl dL_law_1219 ?_
    refine JG_callX8 (As := []) (rest := []) [] (w9 ++ wlo cy S (ku G 80 0 0 (m.1 53 i).toInt64)) dL_law_1220 (c_X8_thrown hM3) rfl rfl lm_L_133 kc_yX8_thrown ki_yX8_thrown kv_yX8_thrown kd_yX8_thrown ⟨Nat.le_of_ble_eq_true rfl, Nat.le_of_ble_eq_true rfl⟩ (by show ((cells + 0) + 0) + 0 ≤ 603072; omega) (by show ((slots + 0) + 0) + 0 ≤ 7186538; omega) (Nat.le_of_ble_eq_true rfl) (fun _ w8 r4 => ?_)
    obtain ⟨rfl, I5, L5, rfl, hM5⟩ := r4
    refine JG_eq (w' := wm cy S I5 L5 R2 ++ (w9 ++ wlo cy S (ku G 80 0 0 (m.1 53 i).toInt64))) (st' := [.int 0]) rfl rfl rfl ?_
    refine JG_iload 6 rfl dL_law_1223 ?_
    refine JG_icmp_eq 1230 (by decide) dL_law_1225 (fun c6 => ?_) (fun c6 => ?_)
    rotate_left
    · exact absurd (by decide) c6
    refine JG_iload 6 rfl dL_law_1230 ?_
    refine JG_if_ne 1247 (by decide) dL_law_1232 (fun c7 => ?_) (fun c7 => ?_)
    · exact absurd (by decide) c7
    refine JG_aload_n 3 rfl dL_law_1235 ?_
    refine JG_iconst (v := 0) (by decide) dL_law_1236 ?_
    refine JG_eq (w' := (wm cy S I5 L5 R2 ++ w9) ++ wlo cy S (ku G 80 0 0 (m.1 53 i).toInt64)) (List.append_assoc _ _ _).symm rfl rfl ?_
    refine JG_laldO dL_law_1237 ?_
    refine JG_eq (w' := wm cy S I5 L5 R2 ++ (w9 ++ wlo cy S (ku G 80 0 0 (m.1 53 i).toInt64))) (st' := [.long (m.1 53 i).toInt64]) (List.append_assoc _ _ _) rfl (by rw [ku_eq]) ?_
    refine JG_iload 7 rfl dL_law_1238 ?_
    refine JG_i2l dL_law_1240 ?_
    refine JG_lcmp (rfl) dL_law_1241 ?_
    refine JG_if_eq 1247 (by decide) dL_law_1242 (fun c8 => ?_) (fun c8 => ?_)
    rotate_left
    · exact absurd (by decide) c8
    refine JG_goto 2268 (by decide) dL_law_1247 ?_
    refine JG_sub (lv' := [(0, .ref b), (1, .ref (ka S 0 0)), (2, .ref (ka S 30 0)), (3, .ref (ka S 80 0)), (4, .ref (ka S 81 0)), (5, .int (nI z))]) [0, 1, 2, 3, 4, 5] rfl ?_
    exact kk m _ _ _ _ _ _ _ _ ⟨LP, rc, hP⟩ hI (by omega) hM5 (by omega) (by omega)
  · skip
    refine JG_aload_n 1 rfl dL_law_1194 ?_
    refine JG_aload_n 0 rfl dL_law_1195 ?_
    refine JG_iload 5 rfl dL_law_1196 ?_
    refine JG_iconst (v := 1) (by decide) dL_law_1198 ?_
    refine JG_iadd dL_law_1199 ?_
    refine JG_topeq (nI (z + 1)) (by exact nI_add z 1) ?_
    refine JG_sld (vp_in_nI (by omega) (by omega)) dL_law_1200 ?_
    refine JG_topeq p1 (by rw [nI_toNat (by omega)]; exact e1) ?_
    refine JG_aload_n 3 rfl dL_law_1201 ?_
    refine JG_callH (As := [.ref (ka S 0 0), .int p1, .ref (ka S 80 0)]) (rest := []) (wm cy S I2 L2 R2) [] dL_law_1202 (w_urgencyOf_1 (c_X7_urgencyOf_x hR hI (by omega) hlg hx)) (by rw [List.append_nil]) lm_L_185 kw_L_urgencyOf kiniL ks_L_urgencyOf kdL_urgencyOf ⟨Nat.le_of_ble_eq_true rfl, Nat.le_of_ble_eq_true rfl⟩ (by show cells + 1 ≤ 603072; omega) (by show slots + 6 ≤ 7186538; omega) (Nat.le_of_ble_eq_true rfl) (fun _ w8 r1 => ?_)
    obtain ⟨rfl, w9, hP, rfl⟩ := r1
    refine JG_eq (w' := wm cy S I2 L2 R2 ++ (w9 ++ wlo cy S G)) (st' := [.int 1]) (by rw [List.append_nil]) rfl rfl ?_
    refine JG_istore (lv' := [(0, .ref b), (1, .ref (ka S 0 0)), (2, .ref (ka S 30 0)), (3, .ref (ka S 80 0)), (4, .ref (ka S 81 0)), (5, .int (nI z)), (6, .int 1)]) (by decide) rfl dL_law_1205 ?_
    refine JG_aload_n 2 rfl dL_law_1207 ?_
    refine JG_aload_n 0 rfl dL_law_1208 ?_
    refine JG_iload 5 rfl dL_law_1209 ?_
    refine JG_iconst (v := 1) (by decide) dL_law_1211 ?_
    refine JG_iadd dL_law_1212 ?_
    refine JG_topeq (nI (z + 1)) (by exact nI_add z 1) ?_
    refine JG_sld (vp_in_nI (by omega) (by omega)) dL_law_1213 ?_
    refine JG_topeq p1 (by rw [nI_toNat (by omega)]; exact e1) ?_
    refine JG_callX8 (As := [.int p1]) (rest := []) [] (w9 ++ wlo cy S G) dL_law_1214 (c_X8_urgencyOf_x hM hR hI (by omega) hx) rfl rfl lm_L_187 kc_yX8_urgencyOf ki_yX8_urgencyOf kv_yX8_urgencyOf kd_yX8_urgencyOf ⟨Nat.le_of_ble_eq_true rfl, Nat.le_of_ble_eq_true rfl⟩ (by show (cells + 1) + 0 ≤ 603072; omega) (by show (slots + 6) + 0 ≤ 7186538; omega) (Nat.le_of_ble_eq_true rfl) (fun _ w8 r2 => ?_)
    obtain ⟨rfl, I3, L3, rfl, hM3⟩ := r2
    refine JG_eq (w' := wm cy S I3 L3 R2 ++ (w9 ++ wlo cy S G)) (st' := [.int 97]) rfl rfl rfl ?_
    refine JG_istore (lv' := [(0, .ref b), (1, .ref (ka S 0 0)), (2, .ref (ka S 30 0)), (3, .ref (ka S 80 0)), (4, .ref (ka S 81 0)), (5, .int (nI z)), (6, .int 1), (7, .int 97)]) (by decide) rfl dL_law_1217 ?_
    refine JG_aload_n 2 rfl dL_law_1219 ?_
    refine JG_callX8 (As := []) (rest := []) [] (w9 ++ wlo cy S G) dL_law_1220 (c_X8_thrown hM3) rfl rfl lm_L_133 kc_yX8_thrown ki_yX8_thrown kv_yX8_thrown kd_yX8_thrown ⟨Nat.le_of_ble_eq_true rfl, Nat.le_of_ble_eq_true rfl⟩ (by show ((cells + 1) + 0) + 0 ≤ 603072; omega) (by show ((slots + 6) + 0) + 0 ≤ 7186538; omega) (Nat.le_of_ble_eq_true rfl) (fun _ w8 r4 => ?_)
    obtain ⟨rfl, I5, L5, rfl, hM5⟩ := r4
    refine JG_eq (w' := wm cy S I5 L5 R2 ++ (w9 ++ wlo cy S G)) (st' := [.int 1]) rfl rfl rfl ?_
    refine JG_iload 6 rfl dL_law_1223 ?_
    refine JG_icmp_eq 1230 (by decide) dL_law_1225 (fun c6 => ?_) (fun c6 => ?_)
    rotate_left
    · exact absurd (by decide) c6
    refine JG_iload 6 rfl dL_law_1230 ?_
    refine JG_if_ne 1247 (by decide) dL_law_1232 (fun c7 => ?_) (fun c7 => ?_)
    rotate_left
    · exact absurd c7 (by decide)
    refine JG_goto 2268 (by decide) dL_law_1247 ?_
    refine JG_sub (lv' := [(0, .ref b), (1, .ref (ka S 0 0)), (2, .ref (ka S 30 0)), (3, .ref (ka S 80 0)), (4, .ref (ka S 81 0)), (5, .int (nI z))]) [0, 1, 2, 3, 4, 5] rfl ?_
    exact kk m _ _ _ _ _ _ _ _ ⟨LP, rc, hP⟩ hI (by omega) hM5 (by omega) (by omega)

set_option maxRecDepth 20000 in
set_option maxHeartbeats 1000000 in
theorem lc_leftOf {cy : Nat → ClassId} {S : Nat → Nat → Nat} {I I2 : kI} {L L2 G : kL} {R R2 : kRf} {LP : List Nat} {m : Mu} {rc : Nat → Nat} {ln qu : List Nat} {lg B : Nat} {cd : Int32} {b Lx z cells slots : Nat} {xs : Nat → Int32} {p1 : Int32} (hR : Rel m I L R LP rc ln qu lg) (hI : Inv m B) (hB : B + 100000 < 2 ^ 30) (hlg : lg < 2 ^ 30) (hM : MR m cd I2 L2) (hz : z + 4 < Lx) (hLx : Lx ≤ 2560) (hcl : cells + 101 ≤ 603072) (hsl : slots + 1307 ≤ 7186538) (e1 : xs (z + 1) = p1) (kk : ∀ (m' : Mu) (B' : Nat) (w9 : va_W) (I2 : kI) (L2 : kL) (cd : Int32) (G : kL) (c' s' : Nat), (∃ LP rc, RelX cy S LP rc m' w9) → Inv m' B' → B' ≤ B + 90000 → MR m' cd I2 L2 → c' ≤ cells + 100 → s' ≤ slots + 1300 → JG RL cL_law 9 cy room_1 (ExL b Lx xs) FinL 2268 [(0, .ref b), (1, .ref (ka S 0 0)), (2, .ref (ka S 30 0)), (3, .ref (ka S 80 0)), (4, .ref (ka S 81 0)), (5, .int (nI z))] [] (wm cy S I2 L2 R2 ++ (w9 ++ wlo cy S G)) c' s') : JG RL cL_law 9 cy room_1 (ExL b Lx xs) FinL 1250 [(0, .ref b), (1, .ref (ka S 0 0)), (2, .ref (ka S 30 0)), (3, .ref (ka S 80 0)), (4, .ref (ka S 81 0)), (5, .int (nI z))] [] (wm cy S I2 L2 R2 ++ (wc cy S I L R LP ++ wlo cy S G)) cells slots := by
  have hl31 : lg < 2 ^ 31 := by omega
  rcases lt_or (mC m) p1 with ⟨i, hi, rfl⟩ | hx
  · skip
    refine JG_aload_n 1 rfl dL_law_1250 ?_
    refine JG_aload_n 0 rfl dL_law_1251 ?_
    refine JG_iload 5 rfl dL_law_1252 ?_
    refine JG_iconst (v := 1) (by decide) dL_law_1254 ?_
    refine JG_iadd dL_law_1255 ?_
    refine JG_topeq (nI (z + 1)) (by exact nI_add z 1) ?_
    refine JG_sld (vp_in_nI (by omega) (by omega)) dL_law_1256 ?_
    refine JG_topeq (nI i) (by rw [nI_toNat (by omega)]; exact e1) ?_
    refine JG_aload_n 3 rfl dL_law_1257 ?_
    refine JG_callH (As := [.ref (ka S 0 0), .int (nI i), .ref (ka S 80 0)]) (rest := []) (wm cy S I2 L2 R2) [] dL_law_1258 (w_leftOf_s  (c_X7_leftOf_s hR hI (by omega) hlg hi)) (by rw [List.append_nil]) lm_L_188 kw_L_leftOf kiniL ks_L_leftOf kdL_leftOf ⟨Nat.le_of_ble_eq_true rfl, Nat.le_of_ble_eq_true rfl⟩ (by show cells + 0 ≤ 603072; omega) (by show slots + 0 ≤ 7186538; omega) (Nat.le_of_ble_eq_true rfl) (fun _ w8 r1 => ?_)
    obtain ⟨rfl, w9, hP, rfl⟩ := r1
    refine JG_eq (w' := wm cy S I2 L2 R2 ++ (w9 ++ wlo cy S (ku G 80 0 0 (m.1 54 i).toInt64))) (st' := [.int 0]) (by rw [List.append_nil]) rfl rfl ?_
    refine JG_istore (lv' := [(0, .ref b), (1, .ref (ka S 0 0)), (2, .ref (ka S 30 0)), (3, .ref (ka S 80 0)), (4, .ref (ka S 81 0)), (5, .int (nI z)), (6, .int 0)]) (by decide) rfl dL_law_1261 ?_
    refine JG_aload_n 2 rfl dL_law_1263 ?_
    refine JG_aload_n 0 rfl dL_law_1264 ?_
    refine JG_iload 5 rfl dL_law_1265 ?_
    refine JG_iconst (v := 1) (by decide) dL_law_1267 ?_
    refine JG_iadd dL_law_1268 ?_
    refine JG_topeq (nI (z + 1)) (by exact nI_add z 1) ?_
    refine JG_sld (vp_in_nI (by omega) (by omega)) dL_law_1269 ?_
    refine JG_topeq (nI i) (by rw [nI_toNat (by omega)]; exact e1) ?_
    refine JG_callX8 (As := [.int (nI i)]) (rest := []) [] (w9 ++ wlo cy S (ku G 80 0 0 (m.1 54 i).toInt64)) dL_law_1270 (c_X8_leftOf_s hM hR hI (by omega) hi) rfl rfl lm_L_190 kc_yX8_leftOf ki_yX8_leftOf kv_yX8_leftOf kd_yX8_leftOf ⟨Nat.le_of_ble_eq_true rfl, Nat.le_of_ble_eq_true rfl⟩ (by show (cells + 0) + 0 ≤ 603072; omega) (by show (slots + 0) + 0 ≤ 7186538; omega) (Nat.le_of_ble_eq_true rfl) (fun _ w8 r2 => ?_)
    obtain ⟨rfl, I3, L3, rfl, hM3⟩ := r2
    refine JG_eq (w' := wm cy S I3 L3 R2 ++ (w9 ++ wlo cy S (ku G 80 0 0 (m.1 54 i).toInt64))) (st' := [.int (m.1 54 i)]) rfl rfl rfl ?_
    refine JG_istore (lv' := [(0, .ref b), (1, .ref (ka S 0 0)), (2, .ref (ka S 30 0)), (3, .ref (ka S 80 0)), (4, .ref (ka S 81 0)), (5, .int (nI z)), (6, .int 0), (7, .int (m.1 54 i))]) (by decide) rfl dL_law_1273 ?_
    refine JG_aload_n 2 rfl dL_law_1275 ?_
    refine JG_callX8 (As := []) (rest := []) [] (w9 ++ wlo cy S (ku G 80 0 0 (m.1 54 i).toInt64)) dL_law_1276 (c_X8_thrown hM3) rfl rfl lm_L_133 kc_yX8_thrown ki_yX8_thrown kv_yX8_thrown kd_yX8_thrown ⟨Nat.le_of_ble_eq_true rfl, Nat.le_of_ble_eq_true rfl⟩ (by show ((cells + 0) + 0) + 0 ≤ 603072; omega) (by show ((slots + 0) + 0) + 0 ≤ 7186538; omega) (Nat.le_of_ble_eq_true rfl) (fun _ w8 r4 => ?_)
    obtain ⟨rfl, I5, L5, rfl, hM5⟩ := r4
    refine JG_eq (w' := wm cy S I5 L5 R2 ++ (w9 ++ wlo cy S (ku G 80 0 0 (m.1 54 i).toInt64))) (st' := [.int 0]) rfl rfl rfl ?_
    refine JG_iload 6 rfl dL_law_1279 ?_
    refine JG_icmp_eq 1286 (by decide) dL_law_1281 (fun c6 => ?_) (fun c6 => ?_)
    rotate_left
    · exact absurd (by decide) c6
    refine JG_iload 6 rfl dL_law_1286 ?_
    refine JG_if_ne 1303 (by decide) dL_law_1288 (fun c7 => ?_) (fun c7 => ?_)
    · exact absurd (by decide) c7
    refine JG_aload_n 3 rfl dL_law_1291 ?_
    refine JG_iconst (v := 0) (by decide) dL_law_1292 ?_
    refine JG_eq (w' := (wm cy S I5 L5 R2 ++ w9) ++ wlo cy S (ku G 80 0 0 (m.1 54 i).toInt64)) (List.append_assoc _ _ _).symm rfl rfl ?_
    refine JG_laldO dL_law_1293 ?_
    refine JG_eq (w' := wm cy S I5 L5 R2 ++ (w9 ++ wlo cy S (ku G 80 0 0 (m.1 54 i).toInt64))) (st' := [.long (m.1 54 i).toInt64]) (List.append_assoc _ _ _) rfl (by rw [ku_eq]) ?_
    refine JG_iload 7 rfl dL_law_1294 ?_
    refine JG_i2l dL_law_1296 ?_
    refine JG_lcmp (rfl) dL_law_1297 ?_
    refine JG_if_eq 1303 (by decide) dL_law_1298 (fun c8 => ?_) (fun c8 => ?_)
    rotate_left
    · exact absurd (by decide) c8
    refine JG_goto 2268 (by decide) dL_law_1303 ?_
    refine JG_sub (lv' := [(0, .ref b), (1, .ref (ka S 0 0)), (2, .ref (ka S 30 0)), (3, .ref (ka S 80 0)), (4, .ref (ka S 81 0)), (5, .int (nI z))]) [0, 1, 2, 3, 4, 5] rfl ?_
    exact kk m _ _ _ _ _ _ _ _ ⟨LP, rc, hP⟩ hI (by omega) hM5 (by omega) (by omega)
  · skip
    refine JG_aload_n 1 rfl dL_law_1250 ?_
    refine JG_aload_n 0 rfl dL_law_1251 ?_
    refine JG_iload 5 rfl dL_law_1252 ?_
    refine JG_iconst (v := 1) (by decide) dL_law_1254 ?_
    refine JG_iadd dL_law_1255 ?_
    refine JG_topeq (nI (z + 1)) (by exact nI_add z 1) ?_
    refine JG_sld (vp_in_nI (by omega) (by omega)) dL_law_1256 ?_
    refine JG_topeq p1 (by rw [nI_toNat (by omega)]; exact e1) ?_
    refine JG_aload_n 3 rfl dL_law_1257 ?_
    refine JG_callH (As := [.ref (ka S 0 0), .int p1, .ref (ka S 80 0)]) (rest := []) (wm cy S I2 L2 R2) [] dL_law_1258 (w_leftOf_1 (c_X7_leftOf_x hR hI (by omega) hlg hx)) (by rw [List.append_nil]) lm_L_188 kw_L_leftOf kiniL ks_L_leftOf kdL_leftOf ⟨Nat.le_of_ble_eq_true rfl, Nat.le_of_ble_eq_true rfl⟩ (by show cells + 1 ≤ 603072; omega) (by show slots + 6 ≤ 7186538; omega) (Nat.le_of_ble_eq_true rfl) (fun _ w8 r1 => ?_)
    obtain ⟨rfl, w9, hP, rfl⟩ := r1
    refine JG_eq (w' := wm cy S I2 L2 R2 ++ (w9 ++ wlo cy S G)) (st' := [.int 1]) (by rw [List.append_nil]) rfl rfl ?_
    refine JG_istore (lv' := [(0, .ref b), (1, .ref (ka S 0 0)), (2, .ref (ka S 30 0)), (3, .ref (ka S 80 0)), (4, .ref (ka S 81 0)), (5, .int (nI z)), (6, .int 1)]) (by decide) rfl dL_law_1261 ?_
    refine JG_aload_n 2 rfl dL_law_1263 ?_
    refine JG_aload_n 0 rfl dL_law_1264 ?_
    refine JG_iload 5 rfl dL_law_1265 ?_
    refine JG_iconst (v := 1) (by decide) dL_law_1267 ?_
    refine JG_iadd dL_law_1268 ?_
    refine JG_topeq (nI (z + 1)) (by exact nI_add z 1) ?_
    refine JG_sld (vp_in_nI (by omega) (by omega)) dL_law_1269 ?_
    refine JG_topeq p1 (by rw [nI_toNat (by omega)]; exact e1) ?_
    refine JG_callX8 (As := [.int p1]) (rest := []) [] (w9 ++ wlo cy S G) dL_law_1270 (c_X8_leftOf_x hM hR hI (by omega) hx) rfl rfl lm_L_190 kc_yX8_leftOf ki_yX8_leftOf kv_yX8_leftOf kd_yX8_leftOf ⟨Nat.le_of_ble_eq_true rfl, Nat.le_of_ble_eq_true rfl⟩ (by show (cells + 1) + 0 ≤ 603072; omega) (by show (slots + 6) + 0 ≤ 7186538; omega) (Nat.le_of_ble_eq_true rfl) (fun _ w8 r2 => ?_)
    obtain ⟨rfl, I3, L3, rfl, hM3⟩ := r2
    refine JG_eq (w' := wm cy S I3 L3 R2 ++ (w9 ++ wlo cy S G)) (st' := [.int 0]) rfl rfl rfl ?_
    refine JG_istore (lv' := [(0, .ref b), (1, .ref (ka S 0 0)), (2, .ref (ka S 30 0)), (3, .ref (ka S 80 0)), (4, .ref (ka S 81 0)), (5, .int (nI z)), (6, .int 1), (7, .int 0)]) (by decide) rfl dL_law_1273 ?_
    refine JG_aload_n 2 rfl dL_law_1275 ?_
    refine JG_callX8 (As := []) (rest := []) [] (w9 ++ wlo cy S G) dL_law_1276 (c_X8_thrown hM3) rfl rfl lm_L_133 kc_yX8_thrown ki_yX8_thrown kv_yX8_thrown kd_yX8_thrown ⟨Nat.le_of_ble_eq_true rfl, Nat.le_of_ble_eq_true rfl⟩ (by show ((cells + 1) + 0) + 0 ≤ 603072; omega) (by show ((slots + 6) + 0) + 0 ≤ 7186538; omega) (Nat.le_of_ble_eq_true rfl) (fun _ w8 r4 => ?_)
    obtain ⟨rfl, I5, L5, rfl, hM5⟩ := r4
    refine JG_eq (w' := wm cy S I5 L5 R2 ++ (w9 ++ wlo cy S G)) (st' := [.int 1]) rfl rfl rfl ?_
    refine JG_iload 6 rfl dL_law_1279 ?_
    refine JG_icmp_eq 1286 (by decide) dL_law_1281 (fun c6 => ?_) (fun c6 => ?_)
    rotate_left
    · exact absurd (by decide) c6
    refine JG_iload 6 rfl dL_law_1286 ?_
    refine JG_if_ne 1303 (by decide) dL_law_1288 (fun c7 => ?_) (fun c7 => ?_)
    rotate_left
    · exact absurd c7 (by decide)
    refine JG_goto 2268 (by decide) dL_law_1303 ?_
    refine JG_sub (lv' := [(0, .ref b), (1, .ref (ka S 0 0)), (2, .ref (ka S 30 0)), (3, .ref (ka S 80 0)), (4, .ref (ka S 81 0)), (5, .int (nI z))]) [0, 1, 2, 3, 4, 5] rfl ?_
    exact kk m _ _ _ _ _ _ _ _ ⟨LP, rc, hP⟩ hI (by omega) hM5 (by omega) (by omega)

set_option maxRecDepth 20000 in
set_option maxHeartbeats 1000000 in
theorem lc_interruptions {cy : Nat → ClassId} {S : Nat → Nat → Nat} {I I2 : kI} {L L2 G : kL} {R R2 : kRf} {LP : List Nat} {m : Mu} {rc : Nat → Nat} {ln qu : List Nat} {lg B : Nat} {cd : Int32} {b Lx z cells slots : Nat} {xs : Nat → Int32} {p1 : Int32} (hR : Rel m I L R LP rc ln qu lg) (hI : Inv m B) (hB : B + 100000 < 2 ^ 30) (hlg : lg < 2 ^ 30) (hM : MR m cd I2 L2) (hz : z + 4 < Lx) (hLx : Lx ≤ 2560) (hcl : cells + 101 ≤ 603072) (hsl : slots + 1307 ≤ 7186538) (e1 : xs (z + 1) = p1) (kk : ∀ (m' : Mu) (B' : Nat) (w9 : va_W) (I2 : kI) (L2 : kL) (cd : Int32) (G : kL) (c' s' : Nat), (∃ LP rc, RelX cy S LP rc m' w9) → Inv m' B' → B' ≤ B + 90000 → MR m' cd I2 L2 → c' ≤ cells + 100 → s' ≤ slots + 1300 → JG RL cL_law 9 cy room_1 (ExL b Lx xs) FinL 2268 [(0, .ref b), (1, .ref (ka S 0 0)), (2, .ref (ka S 30 0)), (3, .ref (ka S 80 0)), (4, .ref (ka S 81 0)), (5, .int (nI z))] [] (wm cy S I2 L2 R2 ++ (w9 ++ wlo cy S G)) c' s') : JG RL cL_law 9 cy room_1 (ExL b Lx xs) FinL 1362 [(0, .ref b), (1, .ref (ka S 0 0)), (2, .ref (ka S 30 0)), (3, .ref (ka S 80 0)), (4, .ref (ka S 81 0)), (5, .int (nI z))] [] (wm cy S I2 L2 R2 ++ (wc cy S I L R LP ++ wlo cy S G)) cells slots := by
  have hl31 : lg < 2 ^ 31 := by omega
  rcases lt_or (mC m) p1 with ⟨i, hi, rfl⟩ | hx
  · skip
    refine JG_aload_n 1 rfl dL_law_1362 ?_
    refine JG_aload_n 0 rfl dL_law_1363 ?_
    refine JG_iload 5 rfl dL_law_1364 ?_
    refine JG_iconst (v := 1) (by decide) dL_law_1366 ?_
    refine JG_iadd dL_law_1367 ?_
    refine JG_topeq (nI (z + 1)) (by exact nI_add z 1) ?_
    refine JG_sld (vp_in_nI (by omega) (by omega)) dL_law_1368 ?_
    refine JG_topeq (nI i) (by rw [nI_toNat (by omega)]; exact e1) ?_
    refine JG_aload_n 3 rfl dL_law_1369 ?_
    refine JG_callH (As := [.ref (ka S 0 0), .int (nI i), .ref (ka S 80 0)]) (rest := []) (wm cy S I2 L2 R2) [] dL_law_1370 (w_interruptions_s  (c_X7_interruptions_s hR hI (by omega) hlg hi)) (by rw [List.append_nil]) lm_L_194 kw_L_interruptions kiniL ks_L_interruptions kdL_interruptions ⟨Nat.le_of_ble_eq_true rfl, Nat.le_of_ble_eq_true rfl⟩ (by show cells + 0 ≤ 603072; omega) (by show slots + 0 ≤ 7186538; omega) (Nat.le_of_ble_eq_true rfl) (fun _ w8 r1 => ?_)
    obtain ⟨rfl, w9, hP, rfl⟩ := r1
    refine JG_eq (w' := wm cy S I2 L2 R2 ++ (w9 ++ wlo cy S (ku G 80 0 0 (m.1 59 i).toInt64))) (st' := [.int 0]) (by rw [List.append_nil]) rfl rfl ?_
    refine JG_istore (lv' := [(0, .ref b), (1, .ref (ka S 0 0)), (2, .ref (ka S 30 0)), (3, .ref (ka S 80 0)), (4, .ref (ka S 81 0)), (5, .int (nI z)), (6, .int 0)]) (by decide) rfl dL_law_1373 ?_
    refine JG_aload_n 2 rfl dL_law_1375 ?_
    refine JG_aload_n 0 rfl dL_law_1376 ?_
    refine JG_iload 5 rfl dL_law_1377 ?_
    refine JG_iconst (v := 1) (by decide) dL_law_1379 ?_
    refine JG_iadd dL_law_1380 ?_
    refine JG_topeq (nI (z + 1)) (by exact nI_add z 1) ?_
    refine JG_sld (vp_in_nI (by omega) (by omega)) dL_law_1381 ?_
    refine JG_topeq (nI i) (by rw [nI_toNat (by omega)]; exact e1) ?_
    refine JG_callX8 (As := [.int (nI i)]) (rest := []) [] (w9 ++ wlo cy S (ku G 80 0 0 (m.1 59 i).toInt64)) dL_law_1382 (c_X8_interruptions_s hM hR hI (by omega) hi) rfl rfl lm_L_196 kc_yX8_interruptions ki_yX8_interruptions kv_yX8_interruptions kd_yX8_interruptions ⟨Nat.le_of_ble_eq_true rfl, Nat.le_of_ble_eq_true rfl⟩ (by show (cells + 0) + 0 ≤ 603072; omega) (by show (slots + 0) + 0 ≤ 7186538; omega) (Nat.le_of_ble_eq_true rfl) (fun _ w8 r2 => ?_)
    obtain ⟨rfl, I3, L3, rfl, hM3⟩ := r2
    refine JG_eq (w' := wm cy S I3 L3 R2 ++ (w9 ++ wlo cy S (ku G 80 0 0 (m.1 59 i).toInt64))) (st' := [.int (m.1 59 i)]) rfl rfl rfl ?_
    refine JG_istore (lv' := [(0, .ref b), (1, .ref (ka S 0 0)), (2, .ref (ka S 30 0)), (3, .ref (ka S 80 0)), (4, .ref (ka S 81 0)), (5, .int (nI z)), (6, .int 0), (7, .int (m.1 59 i))]) (by decide) rfl dL_law_1385 ?_
    refine JG_aload_n 2 rfl dL_law_1387 ?_
    refine JG_callX8 (As := []) (rest := []) [] (w9 ++ wlo cy S (ku G 80 0 0 (m.1 59 i).toInt64)) dL_law_1388 (c_X8_thrown hM3) rfl rfl lm_L_133 kc_yX8_thrown ki_yX8_thrown kv_yX8_thrown kd_yX8_thrown ⟨Nat.le_of_ble_eq_true rfl, Nat.le_of_ble_eq_true rfl⟩ (by show ((cells + 0) + 0) + 0 ≤ 603072; omega) (by show ((slots + 0) + 0) + 0 ≤ 7186538; omega) (Nat.le_of_ble_eq_true rfl) (fun _ w8 r4 => ?_)
    obtain ⟨rfl, I5, L5, rfl, hM5⟩ := r4
    refine JG_eq (w' := wm cy S I5 L5 R2 ++ (w9 ++ wlo cy S (ku G 80 0 0 (m.1 59 i).toInt64))) (st' := [.int 0]) rfl rfl rfl ?_
    refine JG_iload 6 rfl dL_law_1391 ?_
    refine JG_icmp_eq 1398 (by decide) dL_law_1393 (fun c6 => ?_) (fun c6 => ?_)
    rotate_left
    · exact absurd (by decide) c6
    refine JG_iload 6 rfl dL_law_1398 ?_
    refine JG_if_ne 1415 (by decide) dL_law_1400 (fun c7 => ?_) (fun c7 => ?_)
    · exact absurd (by decide) c7
    refine JG_aload_n 3 rfl dL_law_1403 ?_
    refine JG_iconst (v := 0) (by decide) dL_law_1404 ?_
    refine JG_eq (w' := (wm cy S I5 L5 R2 ++ w9) ++ wlo cy S (ku G 80 0 0 (m.1 59 i).toInt64)) (List.append_assoc _ _ _).symm rfl rfl ?_
    refine JG_laldO dL_law_1405 ?_
    refine JG_eq (w' := wm cy S I5 L5 R2 ++ (w9 ++ wlo cy S (ku G 80 0 0 (m.1 59 i).toInt64))) (st' := [.long (m.1 59 i).toInt64]) (List.append_assoc _ _ _) rfl (by rw [ku_eq]) ?_
    refine JG_iload 7 rfl dL_law_1406 ?_
    refine JG_i2l dL_law_1408 ?_
    refine JG_lcmp (rfl) dL_law_1409 ?_
    refine JG_if_eq 1415 (by decide) dL_law_1410 (fun c8 => ?_) (fun c8 => ?_)
    rotate_left
    · exact absurd (by decide) c8
    refine JG_goto 2268 (by decide) dL_law_1415 ?_
    refine JG_sub (lv' := [(0, .ref b), (1, .ref (ka S 0 0)), (2, .ref (ka S 30 0)), (3, .ref (ka S 80 0)), (4, .ref (ka S 81 0)), (5, .int (nI z))]) [0, 1, 2, 3, 4, 5] rfl ?_
    exact kk m _ _ _ _ _ _ _ _ ⟨LP, rc, hP⟩ hI (by omega) hM5 (by omega) (by omega)
  · skip
    refine JG_aload_n 1 rfl dL_law_1362 ?_
    refine JG_aload_n 0 rfl dL_law_1363 ?_
    refine JG_iload 5 rfl dL_law_1364 ?_
    refine JG_iconst (v := 1) (by decide) dL_law_1366 ?_
    refine JG_iadd dL_law_1367 ?_
    refine JG_topeq (nI (z + 1)) (by exact nI_add z 1) ?_
    refine JG_sld (vp_in_nI (by omega) (by omega)) dL_law_1368 ?_
    refine JG_topeq p1 (by rw [nI_toNat (by omega)]; exact e1) ?_
    refine JG_aload_n 3 rfl dL_law_1369 ?_
    refine JG_callH (As := [.ref (ka S 0 0), .int p1, .ref (ka S 80 0)]) (rest := []) (wm cy S I2 L2 R2) [] dL_law_1370 (w_interruptions_1 (c_X7_interruptions_x hR hI (by omega) hlg hx)) (by rw [List.append_nil]) lm_L_194 kw_L_interruptions kiniL ks_L_interruptions kdL_interruptions ⟨Nat.le_of_ble_eq_true rfl, Nat.le_of_ble_eq_true rfl⟩ (by show cells + 1 ≤ 603072; omega) (by show slots + 6 ≤ 7186538; omega) (Nat.le_of_ble_eq_true rfl) (fun _ w8 r1 => ?_)
    obtain ⟨rfl, w9, hP, rfl⟩ := r1
    refine JG_eq (w' := wm cy S I2 L2 R2 ++ (w9 ++ wlo cy S G)) (st' := [.int 1]) (by rw [List.append_nil]) rfl rfl ?_
    refine JG_istore (lv' := [(0, .ref b), (1, .ref (ka S 0 0)), (2, .ref (ka S 30 0)), (3, .ref (ka S 80 0)), (4, .ref (ka S 81 0)), (5, .int (nI z)), (6, .int 1)]) (by decide) rfl dL_law_1373 ?_
    refine JG_aload_n 2 rfl dL_law_1375 ?_
    refine JG_aload_n 0 rfl dL_law_1376 ?_
    refine JG_iload 5 rfl dL_law_1377 ?_
    refine JG_iconst (v := 1) (by decide) dL_law_1379 ?_
    refine JG_iadd dL_law_1380 ?_
    refine JG_topeq (nI (z + 1)) (by exact nI_add z 1) ?_
    refine JG_sld (vp_in_nI (by omega) (by omega)) dL_law_1381 ?_
    refine JG_topeq p1 (by rw [nI_toNat (by omega)]; exact e1) ?_
    refine JG_callX8 (As := [.int p1]) (rest := []) [] (w9 ++ wlo cy S G) dL_law_1382 (c_X8_interruptions_x hM hR hI (by omega) hx) rfl rfl lm_L_196 kc_yX8_interruptions ki_yX8_interruptions kv_yX8_interruptions kd_yX8_interruptions ⟨Nat.le_of_ble_eq_true rfl, Nat.le_of_ble_eq_true rfl⟩ (by show (cells + 1) + 0 ≤ 603072; omega) (by show (slots + 6) + 0 ≤ 7186538; omega) (Nat.le_of_ble_eq_true rfl) (fun _ w8 r2 => ?_)
    obtain ⟨rfl, I3, L3, rfl, hM3⟩ := r2
    refine JG_eq (w' := wm cy S I3 L3 R2 ++ (w9 ++ wlo cy S G)) (st' := [.int 0]) rfl rfl rfl ?_
    refine JG_istore (lv' := [(0, .ref b), (1, .ref (ka S 0 0)), (2, .ref (ka S 30 0)), (3, .ref (ka S 80 0)), (4, .ref (ka S 81 0)), (5, .int (nI z)), (6, .int 1), (7, .int 0)]) (by decide) rfl dL_law_1385 ?_
    refine JG_aload_n 2 rfl dL_law_1387 ?_
    refine JG_callX8 (As := []) (rest := []) [] (w9 ++ wlo cy S G) dL_law_1388 (c_X8_thrown hM3) rfl rfl lm_L_133 kc_yX8_thrown ki_yX8_thrown kv_yX8_thrown kd_yX8_thrown ⟨Nat.le_of_ble_eq_true rfl, Nat.le_of_ble_eq_true rfl⟩ (by show ((cells + 1) + 0) + 0 ≤ 603072; omega) (by show ((slots + 6) + 0) + 0 ≤ 7186538; omega) (Nat.le_of_ble_eq_true rfl) (fun _ w8 r4 => ?_)
    obtain ⟨rfl, I5, L5, rfl, hM5⟩ := r4
    refine JG_eq (w' := wm cy S I5 L5 R2 ++ (w9 ++ wlo cy S G)) (st' := [.int 1]) rfl rfl rfl ?_
    refine JG_iload 6 rfl dL_law_1391 ?_
    refine JG_icmp_eq 1398 (by decide) dL_law_1393 (fun c6 => ?_) (fun c6 => ?_)
    rotate_left
    · exact absurd (by decide) c6
    refine JG_iload 6 rfl dL_law_1398 ?_
    refine JG_if_ne 1415 (by decide) dL_law_1400 (fun c7 => ?_) (fun c7 => ?_)
    rotate_left
    · exact absurd c7 (by decide)
    refine JG_goto 2268 (by decide) dL_law_1415 ?_
    refine JG_sub (lv' := [(0, .ref b), (1, .ref (ka S 0 0)), (2, .ref (ka S 30 0)), (3, .ref (ka S 80 0)), (4, .ref (ka S 81 0)), (5, .int (nI z))]) [0, 1, 2, 3, 4, 5] rfl ?_
    exact kk m _ _ _ _ _ _ _ _ ⟨LP, rc, hP⟩ hI (by omega) hM5 (by omega) (by omega)

set_option maxRecDepth 20000 in
set_option maxHeartbeats 1000000 in
theorem lc_hears {cy : Nat → ClassId} {S : Nat → Nat → Nat} {I I2 : kI} {L L2 G : kL} {R R2 : kRf} {LP : List Nat} {m : Mu} {rc : Nat → Nat} {ln qu : List Nat} {lg B : Nat} {cd : Int32} {b Lx z cells slots : Nat} {xs : Nat → Int32} {p1 p2 : Int32} (hR : Rel m I L R LP rc ln qu lg) (hI : Inv m B) (hB : B + 100000 < 2 ^ 30) (hlg : lg < 2 ^ 30) (hM : MR m cd I2 L2) (hz : z + 4 < Lx) (hLx : Lx ≤ 2560) (hcl : cells + 101 ≤ 603072) (hsl : slots + 1307 ≤ 7186538) (e1 : xs (z + 1) = p1) (e2 : xs (z + 2) = p2) (kk : ∀ (m' : Mu) (B' : Nat) (w9 : va_W) (I2 : kI) (L2 : kL) (cd : Int32) (G : kL) (c' s' : Nat), (∃ LP rc, RelX cy S LP rc m' w9) → Inv m' B' → B' ≤ B + 90000 → MR m' cd I2 L2 → c' ≤ cells + 100 → s' ≤ slots + 1300 → JG RL cL_law 9 cy room_1 (ExL b Lx xs) FinL 2268 [(0, .ref b), (1, .ref (ka S 0 0)), (2, .ref (ka S 30 0)), (3, .ref (ka S 80 0)), (4, .ref (ka S 81 0)), (5, .int (nI z))] [] (wm cy S I2 L2 R2 ++ (w9 ++ wlo cy S G)) c' s') : JG RL cL_law 9 cy room_1 (ExL b Lx xs) FinL 571 [(0, .ref b), (1, .ref (ka S 0 0)), (2, .ref (ka S 30 0)), (3, .ref (ka S 80 0)), (4, .ref (ka S 81 0)), (5, .int (nI z))] [] (wm cy S I2 L2 R2 ++ (wc cy S I L R LP ++ wlo cy S G)) cells slots := by
  have hl31 : lg < 2 ^ 31 := by omega
  rcases lt_or (mS m) p1 with ⟨s, hs, rfl⟩ | hx
  · skip
    rcases lt_or (mS m) p2 with ⟨t, ht, rfl⟩ | hx
    · skip
      by_cases hne : s = t
      · subst hne
        refine JG_aload_n 1 rfl dL_law_571 ?_
        refine JG_aload_n 0 rfl dL_law_572 ?_
        refine JG_iload 5 rfl dL_law_573 ?_
        refine JG_iconst (v := 1) (by decide) dL_law_575 ?_
        refine JG_iadd dL_law_576 ?_
        refine JG_topeq (nI (z + 1)) (by exact nI_add z 1) ?_
        refine JG_sld (vp_in_nI (by omega) (by omega)) dL_law_577 ?_
        refine JG_topeq (nI s) (by rw [nI_toNat (by omega)]; exact e1) ?_
        refine JG_aload_n 0 rfl dL_law_578 ?_
        refine JG_iload 5 rfl dL_law_579 ?_
        refine JG_iconst (v := 2) (by decide) dL_law_581 ?_
        refine JG_iadd dL_law_582 ?_
        refine JG_topeq (nI (z + 2)) (by exact nI_add z 2) ?_
        refine JG_sld (vp_in_nI (by omega) (by omega)) dL_law_583 ?_
        refine JG_topeq (nI s) (by rw [nI_toNat (by omega)]; exact e2) ?_
        refine JG_aload_n 3 rfl dL_law_584 ?_
        refine JG_callH (As := [.ref (ka S 0 0), .int (nI s), .int (nI s), .ref (ka S 80 0)]) (rest := []) (wm cy S I2 L2 R2) [] dL_law_585 (w_hears_2 (c_X7_hears_e hR hI (by omega) hlg hs)) (by rw [List.append_nil]) lm_L_155 kw_L_hears kiniL ks_L_hears kdL_hears ⟨Nat.le_of_ble_eq_true rfl, Nat.le_of_ble_eq_true rfl⟩ (by show cells + 1 ≤ 603072; omega) (by show slots + 6 ≤ 7186538; omega) (Nat.le_of_ble_eq_true rfl) (fun _ w8 r1 => ?_)
        obtain ⟨rfl, w9, hP, rfl⟩ := r1
        refine JG_eq (w' := wm cy S I2 L2 R2 ++ (w9 ++ wlo cy S G)) (st' := [.int 2]) (by rw [List.append_nil]) rfl rfl ?_
        refine JG_istore (lv' := [(0, .ref b), (1, .ref (ka S 0 0)), (2, .ref (ka S 30 0)), (3, .ref (ka S 80 0)), (4, .ref (ka S 81 0)), (5, .int (nI z)), (6, .int 2)]) (by decide) rfl dL_law_588 ?_
        refine JG_aload_n 2 rfl dL_law_590 ?_
        refine JG_aload_n 0 rfl dL_law_591 ?_
        refine JG_iload 5 rfl dL_law_592 ?_
        refine JG_iconst (v := 1) (by decide) dL_law_594 ?_
        refine JG_iadd dL_law_595 ?_
        refine JG_topeq (nI (z + 1)) (by exact nI_add z 1) ?_
        refine JG_sld (vp_in_nI (by omega) (by omega)) dL_law_596 ?_
        refine JG_topeq (nI s) (by rw [nI_toNat (by omega)]; exact e1) ?_
        refine JG_aload_n 0 rfl dL_law_597 ?_
        refine JG_iload 5 rfl dL_law_598 ?_
        refine JG_iconst (v := 2) (by decide) dL_law_600 ?_
        refine JG_iadd dL_law_601 ?_
        refine JG_topeq (nI (z + 2)) (by exact nI_add z 2) ?_
        refine JG_sld (vp_in_nI (by omega) (by omega)) dL_law_602 ?_
        refine JG_topeq (nI s) (by rw [nI_toNat (by omega)]; exact e2) ?_
        refine JG_callX8 (As := [.int (nI s), .int (nI s)]) (rest := []) [] (w9 ++ wlo cy S G) dL_law_603 (c_X8_hears_e hM hR hI (by omega) hs) rfl rfl lm_L_157 kc_yX8_hears ki_yX8_hears kv_yX8_hears kd_yX8_hears ⟨Nat.le_of_ble_eq_true rfl, Nat.le_of_ble_eq_true rfl⟩ (by show (cells + 1) + 0 ≤ 603072; omega) (by show (slots + 6) + 0 ≤ 7186538; omega) (Nat.le_of_ble_eq_true rfl) (fun _ w8 r2 => ?_)
        obtain ⟨rfl, I3, L3, rfl, hM3⟩ := r2
        refine JG_eq (w' := wm cy S I3 L3 R2 ++ (w9 ++ wlo cy S G)) (st' := [.int 0]) rfl rfl rfl ?_
        refine JG_istore (lv' := [(0, .ref b), (1, .ref (ka S 0 0)), (2, .ref (ka S 30 0)), (3, .ref (ka S 80 0)), (4, .ref (ka S 81 0)), (5, .int (nI z)), (6, .int 2), (7, .int 0)]) (by decide) rfl dL_law_606 ?_
        refine JG_aload_n 2 rfl dL_law_608 ?_
        refine JG_callX8 (As := []) (rest := []) [] (w9 ++ wlo cy S G) dL_law_609 (c_X8_thrown hM3) rfl rfl lm_L_133 kc_yX8_thrown ki_yX8_thrown kv_yX8_thrown kd_yX8_thrown ⟨Nat.le_of_ble_eq_true rfl, Nat.le_of_ble_eq_true rfl⟩ (by show ((cells + 1) + 0) + 0 ≤ 603072; omega) (by show ((slots + 6) + 0) + 0 ≤ 7186538; omega) (Nat.le_of_ble_eq_true rfl) (fun _ w8 r4 => ?_)
        obtain ⟨rfl, I5, L5, rfl, hM5⟩ := r4
        refine JG_eq (w' := wm cy S I5 L5 R2 ++ (w9 ++ wlo cy S G)) (st' := [.int 2]) rfl rfl rfl ?_
        refine JG_iload 6 rfl dL_law_612 ?_
        refine JG_icmp_eq 619 (by decide) dL_law_614 (fun c6 => ?_) (fun c6 => ?_)
        rotate_left
        · exact absurd (by decide) c6
        refine JG_iload 6 rfl dL_law_619 ?_
        refine JG_if_ne 643 (by decide) dL_law_621 (fun c7 => ?_) (fun c7 => ?_)
        rotate_left
        · exact absurd c7 (by decide)
        refine JG_goto 2268 (by decide) dL_law_643 ?_
        refine JG_sub (lv' := [(0, .ref b), (1, .ref (ka S 0 0)), (2, .ref (ka S 30 0)), (3, .ref (ka S 80 0)), (4, .ref (ka S 81 0)), (5, .int (nI z))]) [0, 1, 2, 3, 4, 5] rfl ?_
        exact kk m _ _ _ _ _ _ _ _ ⟨LP, rc, hP⟩ hI (by omega) hM5 (by omega) (by omega)
      · skip
        refine JG_aload_n 1 rfl dL_law_571 ?_
        refine JG_aload_n 0 rfl dL_law_572 ?_
        refine JG_iload 5 rfl dL_law_573 ?_
        refine JG_iconst (v := 1) (by decide) dL_law_575 ?_
        refine JG_iadd dL_law_576 ?_
        refine JG_topeq (nI (z + 1)) (by exact nI_add z 1) ?_
        refine JG_sld (vp_in_nI (by omega) (by omega)) dL_law_577 ?_
        refine JG_topeq (nI s) (by rw [nI_toNat (by omega)]; exact e1) ?_
        refine JG_aload_n 0 rfl dL_law_578 ?_
        refine JG_iload 5 rfl dL_law_579 ?_
        refine JG_iconst (v := 2) (by decide) dL_law_581 ?_
        refine JG_iadd dL_law_582 ?_
        refine JG_topeq (nI (z + 2)) (by exact nI_add z 2) ?_
        refine JG_sld (vp_in_nI (by omega) (by omega)) dL_law_583 ?_
        refine JG_topeq (nI t) (by rw [nI_toNat (by omega)]; exact e2) ?_
        refine JG_aload_n 3 rfl dL_law_584 ?_
        refine JG_callH (As := [.ref (ka S 0 0), .int (nI s), .int (nI t), .ref (ka S 80 0)]) (rest := []) (wm cy S I2 L2 R2) [] dL_law_585 (w_hears_s (by cases mAdj m s t <;> simp [kb]) (c_X7_hears_s hR hI (by omega) hlg hs ht hne)) (by rw [List.append_nil]) lm_L_155 kw_L_hears kiniL ks_L_hears kdL_hears ⟨Nat.le_of_ble_eq_true rfl, Nat.le_of_ble_eq_true rfl⟩ (by show cells + 0 ≤ 603072; omega) (by show slots + 0 ≤ 7186538; omega) (Nat.le_of_ble_eq_true rfl) (fun _ w8 r1 => ?_)
        obtain ⟨rfl, w9, hP, rfl⟩ := r1
        refine JG_eq (w' := wm cy S I2 L2 R2 ++ (w9 ++ wlo cy S (ku G 80 0 0 (if (kb (mAdj m s t)) = 0 then 0 else 1)))) (st' := [.int 0]) (by rw [List.append_nil]) rfl rfl ?_
        refine JG_istore (lv' := [(0, .ref b), (1, .ref (ka S 0 0)), (2, .ref (ka S 30 0)), (3, .ref (ka S 80 0)), (4, .ref (ka S 81 0)), (5, .int (nI z)), (6, .int 0)]) (by decide) rfl dL_law_588 ?_
        refine JG_aload_n 2 rfl dL_law_590 ?_
        refine JG_aload_n 0 rfl dL_law_591 ?_
        refine JG_iload 5 rfl dL_law_592 ?_
        refine JG_iconst (v := 1) (by decide) dL_law_594 ?_
        refine JG_iadd dL_law_595 ?_
        refine JG_topeq (nI (z + 1)) (by exact nI_add z 1) ?_
        refine JG_sld (vp_in_nI (by omega) (by omega)) dL_law_596 ?_
        refine JG_topeq (nI s) (by rw [nI_toNat (by omega)]; exact e1) ?_
        refine JG_aload_n 0 rfl dL_law_597 ?_
        refine JG_iload 5 rfl dL_law_598 ?_
        refine JG_iconst (v := 2) (by decide) dL_law_600 ?_
        refine JG_iadd dL_law_601 ?_
        refine JG_topeq (nI (z + 2)) (by exact nI_add z 2) ?_
        refine JG_sld (vp_in_nI (by omega) (by omega)) dL_law_602 ?_
        refine JG_topeq (nI t) (by rw [nI_toNat (by omega)]; exact e2) ?_
        refine JG_callX8 (As := [.int (nI s), .int (nI t)]) (rest := []) [] (w9 ++ wlo cy S (ku G 80 0 0 (if (kb (mAdj m s t)) = 0 then 0 else 1))) dL_law_603 (c_X8_hears_s hM hR hI (by omega) hs ht hne) rfl rfl lm_L_157 kc_yX8_hears ki_yX8_hears kv_yX8_hears kd_yX8_hears ⟨Nat.le_of_ble_eq_true rfl, Nat.le_of_ble_eq_true rfl⟩ (by show (cells + 0) + 0 ≤ 603072; omega) (by show (slots + 0) + 0 ≤ 7186538; omega) (Nat.le_of_ble_eq_true rfl) (fun _ w8 r2 => ?_)
        obtain ⟨rfl, I3, L3, rfl, hM3⟩ := r2
        refine JG_eq (w' := wm cy S I3 L3 R2 ++ (w9 ++ wlo cy S (ku G 80 0 0 (if (kb (mAdj m s t)) = 0 then 0 else 1)))) (st' := [.int (kb (mAdj m s t))]) rfl rfl rfl ?_
        refine JG_istore (lv' := [(0, .ref b), (1, .ref (ka S 0 0)), (2, .ref (ka S 30 0)), (3, .ref (ka S 80 0)), (4, .ref (ka S 81 0)), (5, .int (nI z)), (6, .int 0), (7, .int (kb (mAdj m s t)))]) (by decide) rfl dL_law_606 ?_
        refine JG_aload_n 2 rfl dL_law_608 ?_
        refine JG_callX8 (As := []) (rest := []) [] (w9 ++ wlo cy S (ku G 80 0 0 (if (kb (mAdj m s t)) = 0 then 0 else 1))) dL_law_609 (c_X8_thrown hM3) rfl rfl lm_L_133 kc_yX8_thrown ki_yX8_thrown kv_yX8_thrown kd_yX8_thrown ⟨Nat.le_of_ble_eq_true rfl, Nat.le_of_ble_eq_true rfl⟩ (by show ((cells + 0) + 0) + 0 ≤ 603072; omega) (by show ((slots + 0) + 0) + 0 ≤ 7186538; omega) (Nat.le_of_ble_eq_true rfl) (fun _ w8 r4 => ?_)
        obtain ⟨rfl, I5, L5, rfl, hM5⟩ := r4
        refine JG_eq (w' := wm cy S I5 L5 R2 ++ (w9 ++ wlo cy S (ku G 80 0 0 (if (kb (mAdj m s t)) = 0 then 0 else 1)))) (st' := [.int 0]) rfl rfl rfl ?_
        refine JG_iload 6 rfl dL_law_612 ?_
        refine JG_icmp_eq 619 (by decide) dL_law_614 (fun c6 => ?_) (fun c6 => ?_)
        rotate_left
        · exact absurd (by decide) c6
        refine JG_iload 6 rfl dL_law_619 ?_
        refine JG_if_ne 643 (by decide) dL_law_621 (fun c7 => ?_) (fun c7 => ?_)
        · exact absurd (by decide) c7
        refine JG_aload_n 3 rfl dL_law_624 ?_
        refine JG_iconst (v := 0) (by decide) dL_law_625 ?_
        refine JG_eq (w' := (wm cy S I5 L5 R2 ++ w9) ++ wlo cy S (ku G 80 0 0 (if (kb (mAdj m s t)) = 0 then 0 else 1))) (List.append_assoc _ _ _).symm rfl rfl ?_
        refine JG_laldO dL_law_626 ?_
        refine JG_eq (w' := wm cy S I5 L5 R2 ++ (w9 ++ wlo cy S (ku G 80 0 0 (if (kb (mAdj m s t)) = 0 then 0 else 1)))) (st' := [.long (if (kb (mAdj m s t)) = 0 then 0 else 1)]) (List.append_assoc _ _ _) rfl (by rw [ku_eq]) ?_
        refine JG_iload 7 rfl dL_law_627 ?_
        refine JG_if_eq 636 (by decide) dL_law_629 (fun c8 => ?_) (fun c8 => ?_)
        · skip
          refine JG_lconst (v := 0) (by decide) dL_law_636 ?_
          refine JG_lcmp (by first | rw [if_pos (by assumption)] | rw [if_neg (by assumption)]) dL_law_637 ?_
          refine JG_if_eq 643 (by decide) dL_law_638 (fun c9 => ?_) (fun c9 => ?_)
          rotate_left
          · exact absurd (by decide) c9
          refine JG_goto 2268 (by decide) dL_law_643 ?_
          refine JG_sub (lv' := [(0, .ref b), (1, .ref (ka S 0 0)), (2, .ref (ka S 30 0)), (3, .ref (ka S 80 0)), (4, .ref (ka S 81 0)), (5, .int (nI z))]) [0, 1, 2, 3, 4, 5] rfl ?_
          exact kk m _ _ _ _ _ _ _ _ ⟨LP, rc, hP⟩ hI (by omega) hM5 (by omega) (by omega)
        · skip
          refine JG_lconst (v := 1) (by decide) dL_law_632 ?_
          refine JG_goto 637 (by decide) dL_law_633 ?_
          refine JG_lcmp (by first | rw [if_pos (by assumption)] | rw [if_neg (by assumption)]) dL_law_637 ?_
          refine JG_if_eq 643 (by decide) dL_law_638 (fun c10 => ?_) (fun c10 => ?_)
          rotate_left
          · exact absurd (by decide) c10
          refine JG_goto 2268 (by decide) dL_law_643 ?_
          refine JG_sub (lv' := [(0, .ref b), (1, .ref (ka S 0 0)), (2, .ref (ka S 30 0)), (3, .ref (ka S 80 0)), (4, .ref (ka S 81 0)), (5, .int (nI z))]) [0, 1, 2, 3, 4, 5] rfl ?_
          exact kk m _ _ _ _ _ _ _ _ ⟨LP, rc, hP⟩ hI (by omega) hM5 (by omega) (by omega)
    · skip
      refine JG_aload_n 1 rfl dL_law_571 ?_
      refine JG_aload_n 0 rfl dL_law_572 ?_
      refine JG_iload 5 rfl dL_law_573 ?_
      refine JG_iconst (v := 1) (by decide) dL_law_575 ?_
      refine JG_iadd dL_law_576 ?_
      refine JG_topeq (nI (z + 1)) (by exact nI_add z 1) ?_
      refine JG_sld (vp_in_nI (by omega) (by omega)) dL_law_577 ?_
      refine JG_topeq (nI s) (by rw [nI_toNat (by omega)]; exact e1) ?_
      refine JG_aload_n 0 rfl dL_law_578 ?_
      refine JG_iload 5 rfl dL_law_579 ?_
      refine JG_iconst (v := 2) (by decide) dL_law_581 ?_
      refine JG_iadd dL_law_582 ?_
      refine JG_topeq (nI (z + 2)) (by exact nI_add z 2) ?_
      refine JG_sld (vp_in_nI (by omega) (by omega)) dL_law_583 ?_
      refine JG_topeq p2 (by rw [nI_toNat (by omega)]; exact e2) ?_
      refine JG_aload_n 3 rfl dL_law_584 ?_
      refine JG_callH (As := [.ref (ka S 0 0), .int (nI s), .int p2, .ref (ka S 80 0)]) (rest := []) (wm cy S I2 L2 R2) [] dL_law_585 (w_hears_1 (c_X7_hears_y hR hI (by omega) hlg hs hx)) (by rw [List.append_nil]) lm_L_155 kw_L_hears kiniL ks_L_hears kdL_hears ⟨Nat.le_of_ble_eq_true rfl, Nat.le_of_ble_eq_true rfl⟩ (by show cells + 1 ≤ 603072; omega) (by show slots + 6 ≤ 7186538; omega) (Nat.le_of_ble_eq_true rfl) (fun _ w8 r1 => ?_)
      obtain ⟨rfl, w9, hP, rfl⟩ := r1
      refine JG_eq (w' := wm cy S I2 L2 R2 ++ (w9 ++ wlo cy S G)) (st' := [.int 1]) (by rw [List.append_nil]) rfl rfl ?_
      refine JG_istore (lv' := [(0, .ref b), (1, .ref (ka S 0 0)), (2, .ref (ka S 30 0)), (3, .ref (ka S 80 0)), (4, .ref (ka S 81 0)), (5, .int (nI z)), (6, .int 1)]) (by decide) rfl dL_law_588 ?_
      refine JG_aload_n 2 rfl dL_law_590 ?_
      refine JG_aload_n 0 rfl dL_law_591 ?_
      refine JG_iload 5 rfl dL_law_592 ?_
      refine JG_iconst (v := 1) (by decide) dL_law_594 ?_
      refine JG_iadd dL_law_595 ?_
      refine JG_topeq (nI (z + 1)) (by exact nI_add z 1) ?_
      refine JG_sld (vp_in_nI (by omega) (by omega)) dL_law_596 ?_
      refine JG_topeq (nI s) (by rw [nI_toNat (by omega)]; exact e1) ?_
      refine JG_aload_n 0 rfl dL_law_597 ?_
      refine JG_iload 5 rfl dL_law_598 ?_
      refine JG_iconst (v := 2) (by decide) dL_law_600 ?_
      refine JG_iadd dL_law_601 ?_
      refine JG_topeq (nI (z + 2)) (by exact nI_add z 2) ?_
      refine JG_sld (vp_in_nI (by omega) (by omega)) dL_law_602 ?_
      refine JG_topeq p2 (by rw [nI_toNat (by omega)]; exact e2) ?_
      refine JG_callX8 (As := [.int (nI s), .int p2]) (rest := []) [] (w9 ++ wlo cy S G) dL_law_603 (c_X8_hears_y hM hR hI (by omega) hs hx) rfl rfl lm_L_157 kc_yX8_hears ki_yX8_hears kv_yX8_hears kd_yX8_hears ⟨Nat.le_of_ble_eq_true rfl, Nat.le_of_ble_eq_true rfl⟩ (by show (cells + 1) + 0 ≤ 603072; omega) (by show (slots + 6) + 0 ≤ 7186538; omega) (Nat.le_of_ble_eq_true rfl) (fun _ w8 r2 => ?_)
      obtain ⟨rfl, I3, L3, rfl, hM3⟩ := r2
      refine JG_eq (w' := wm cy S I3 L3 R2 ++ (w9 ++ wlo cy S G)) (st' := [.int 0]) rfl rfl rfl ?_
      refine JG_istore (lv' := [(0, .ref b), (1, .ref (ka S 0 0)), (2, .ref (ka S 30 0)), (3, .ref (ka S 80 0)), (4, .ref (ka S 81 0)), (5, .int (nI z)), (6, .int 1), (7, .int 0)]) (by decide) rfl dL_law_606 ?_
      refine JG_aload_n 2 rfl dL_law_608 ?_
      refine JG_callX8 (As := []) (rest := []) [] (w9 ++ wlo cy S G) dL_law_609 (c_X8_thrown hM3) rfl rfl lm_L_133 kc_yX8_thrown ki_yX8_thrown kv_yX8_thrown kd_yX8_thrown ⟨Nat.le_of_ble_eq_true rfl, Nat.le_of_ble_eq_true rfl⟩ (by show ((cells + 1) + 0) + 0 ≤ 603072; omega) (by show ((slots + 6) + 0) + 0 ≤ 7186538; omega) (Nat.le_of_ble_eq_true rfl) (fun _ w8 r4 => ?_)
      obtain ⟨rfl, I5, L5, rfl, hM5⟩ := r4
      refine JG_eq (w' := wm cy S I5 L5 R2 ++ (w9 ++ wlo cy S G)) (st' := [.int 1]) rfl rfl rfl ?_
      refine JG_iload 6 rfl dL_law_612 ?_
      refine JG_icmp_eq 619 (by decide) dL_law_614 (fun c6 => ?_) (fun c6 => ?_)
      rotate_left
      · exact absurd (by decide) c6
      refine JG_iload 6 rfl dL_law_619 ?_
      refine JG_if_ne 643 (by decide) dL_law_621 (fun c7 => ?_) (fun c7 => ?_)
      rotate_left
      · exact absurd c7 (by decide)
      refine JG_goto 2268 (by decide) dL_law_643 ?_
      refine JG_sub (lv' := [(0, .ref b), (1, .ref (ka S 0 0)), (2, .ref (ka S 30 0)), (3, .ref (ka S 80 0)), (4, .ref (ka S 81 0)), (5, .int (nI z))]) [0, 1, 2, 3, 4, 5] rfl ?_
      exact kk m _ _ _ _ _ _ _ _ ⟨LP, rc, hP⟩ hI (by omega) hM5 (by omega) (by omega)
  · skip
    refine JG_aload_n 1 rfl dL_law_571 ?_
    refine JG_aload_n 0 rfl dL_law_572 ?_
    refine JG_iload 5 rfl dL_law_573 ?_
    refine JG_iconst (v := 1) (by decide) dL_law_575 ?_
    refine JG_iadd dL_law_576 ?_
    refine JG_topeq (nI (z + 1)) (by exact nI_add z 1) ?_
    refine JG_sld (vp_in_nI (by omega) (by omega)) dL_law_577 ?_
    refine JG_topeq p1 (by rw [nI_toNat (by omega)]; exact e1) ?_
    refine JG_aload_n 0 rfl dL_law_578 ?_
    refine JG_iload 5 rfl dL_law_579 ?_
    refine JG_iconst (v := 2) (by decide) dL_law_581 ?_
    refine JG_iadd dL_law_582 ?_
    refine JG_topeq (nI (z + 2)) (by exact nI_add z 2) ?_
    refine JG_sld (vp_in_nI (by omega) (by omega)) dL_law_583 ?_
    refine JG_topeq p2 (by rw [nI_toNat (by omega)]; exact e2) ?_
    refine JG_aload_n 3 rfl dL_law_584 ?_
    refine JG_callH (As := [.ref (ka S 0 0), .int p1, .int p2, .ref (ka S 80 0)]) (rest := []) (wm cy S I2 L2 R2) [] dL_law_585 (w_hears_1 (c_X7_hears_x hR hI (by omega) hlg hx)) (by rw [List.append_nil]) lm_L_155 kw_L_hears kiniL ks_L_hears kdL_hears ⟨Nat.le_of_ble_eq_true rfl, Nat.le_of_ble_eq_true rfl⟩ (by show cells + 1 ≤ 603072; omega) (by show slots + 6 ≤ 7186538; omega) (Nat.le_of_ble_eq_true rfl) (fun _ w8 r1 => ?_)
    obtain ⟨rfl, w9, hP, rfl⟩ := r1
    refine JG_eq (w' := wm cy S I2 L2 R2 ++ (w9 ++ wlo cy S G)) (st' := [.int 1]) (by rw [List.append_nil]) rfl rfl ?_
    refine JG_istore (lv' := [(0, .ref b), (1, .ref (ka S 0 0)), (2, .ref (ka S 30 0)), (3, .ref (ka S 80 0)), (4, .ref (ka S 81 0)), (5, .int (nI z)), (6, .int 1)]) (by decide) rfl dL_law_588 ?_
    refine JG_aload_n 2 rfl dL_law_590 ?_
    refine JG_aload_n 0 rfl dL_law_591 ?_
    refine JG_iload 5 rfl dL_law_592 ?_
    refine JG_iconst (v := 1) (by decide) dL_law_594 ?_
    refine JG_iadd dL_law_595 ?_
    refine JG_topeq (nI (z + 1)) (by exact nI_add z 1) ?_
    refine JG_sld (vp_in_nI (by omega) (by omega)) dL_law_596 ?_
    refine JG_topeq p1 (by rw [nI_toNat (by omega)]; exact e1) ?_
    refine JG_aload_n 0 rfl dL_law_597 ?_
    refine JG_iload 5 rfl dL_law_598 ?_
    refine JG_iconst (v := 2) (by decide) dL_law_600 ?_
    refine JG_iadd dL_law_601 ?_
    refine JG_topeq (nI (z + 2)) (by exact nI_add z 2) ?_
    refine JG_sld (vp_in_nI (by omega) (by omega)) dL_law_602 ?_
    refine JG_topeq p2 (by rw [nI_toNat (by omega)]; exact e2) ?_
    refine JG_callX8 (As := [.int p1, .int p2]) (rest := []) [] (w9 ++ wlo cy S G) dL_law_603 (c_X8_hears_x hM hR hI (by omega) hx) rfl rfl lm_L_157 kc_yX8_hears ki_yX8_hears kv_yX8_hears kd_yX8_hears ⟨Nat.le_of_ble_eq_true rfl, Nat.le_of_ble_eq_true rfl⟩ (by show (cells + 1) + 0 ≤ 603072; omega) (by show (slots + 6) + 0 ≤ 7186538; omega) (Nat.le_of_ble_eq_true rfl) (fun _ w8 r2 => ?_)
    obtain ⟨rfl, I3, L3, rfl, hM3⟩ := r2
    refine JG_eq (w' := wm cy S I3 L3 R2 ++ (w9 ++ wlo cy S G)) (st' := [.int 0]) rfl rfl rfl ?_
    refine JG_istore (lv' := [(0, .ref b), (1, .ref (ka S 0 0)), (2, .ref (ka S 30 0)), (3, .ref (ka S 80 0)), (4, .ref (ka S 81 0)), (5, .int (nI z)), (6, .int 1), (7, .int 0)]) (by decide) rfl dL_law_606 ?_
    refine JG_aload_n 2 rfl dL_law_608 ?_
    refine JG_callX8 (As := []) (rest := []) [] (w9 ++ wlo cy S G) dL_law_609 (c_X8_thrown hM3) rfl rfl lm_L_133 kc_yX8_thrown ki_yX8_thrown kv_yX8_thrown kd_yX8_thrown ⟨Nat.le_of_ble_eq_true rfl, Nat.le_of_ble_eq_true rfl⟩ (by show ((cells + 1) + 0) + 0 ≤ 603072; omega) (by show ((slots + 6) + 0) + 0 ≤ 7186538; omega) (Nat.le_of_ble_eq_true rfl) (fun _ w8 r4 => ?_)
    obtain ⟨rfl, I5, L5, rfl, hM5⟩ := r4
    refine JG_eq (w' := wm cy S I5 L5 R2 ++ (w9 ++ wlo cy S G)) (st' := [.int 1]) rfl rfl rfl ?_
    refine JG_iload 6 rfl dL_law_612 ?_
    refine JG_icmp_eq 619 (by decide) dL_law_614 (fun c6 => ?_) (fun c6 => ?_)
    rotate_left
    · exact absurd (by decide) c6
    refine JG_iload 6 rfl dL_law_619 ?_
    refine JG_if_ne 643 (by decide) dL_law_621 (fun c7 => ?_) (fun c7 => ?_)
    rotate_left
    · exact absurd c7 (by decide)
    refine JG_goto 2268 (by decide) dL_law_643 ?_
    refine JG_sub (lv' := [(0, .ref b), (1, .ref (ka S 0 0)), (2, .ref (ka S 30 0)), (3, .ref (ka S 80 0)), (4, .ref (ka S 81 0)), (5, .int (nI z))]) [0, 1, 2, 3, 4, 5] rfl ?_
    exact kk m _ _ _ _ _ _ _ _ ⟨LP, rc, hP⟩ hI (by omega) hM5 (by omega) (by omega)

set_option maxRecDepth 20000 in
set_option maxHeartbeats 1000000 in
theorem lc_relays {cy : Nat → ClassId} {S : Nat → Nat → Nat} {I I2 : kI} {L L2 G : kL} {R R2 : kRf} {LP : List Nat} {m : Mu} {rc : Nat → Nat} {ln qu : List Nat} {lg B : Nat} {cd : Int32} {b Lx z cells slots : Nat} {xs : Nat → Int32} {p1 p2 : Int32} (hR : Rel m I L R LP rc ln qu lg) (hI : Inv m B) (hB : B + 100000 < 2 ^ 30) (hlg : lg < 2 ^ 30) (hM : MR m cd I2 L2) (hz : z + 4 < Lx) (hLx : Lx ≤ 2560) (hcl : cells + 101 ≤ 603072) (hsl : slots + 1307 ≤ 7186538) (e1 : xs (z + 1) = p1) (e2 : xs (z + 2) = p2) (kk : ∀ (m' : Mu) (B' : Nat) (w9 : va_W) (I2 : kI) (L2 : kL) (cd : Int32) (G : kL) (c' s' : Nat), (∃ LP rc, RelX cy S LP rc m' w9) → Inv m' B' → B' ≤ B + 90000 → MR m' cd I2 L2 → c' ≤ cells + 100 → s' ≤ slots + 1300 → JG RL cL_law 9 cy room_1 (ExL b Lx xs) FinL 2268 [(0, .ref b), (1, .ref (ka S 0 0)), (2, .ref (ka S 30 0)), (3, .ref (ka S 80 0)), (4, .ref (ka S 81 0)), (5, .int (nI z))] [] (wm cy S I2 L2 R2 ++ (w9 ++ wlo cy S G)) c' s') : JG RL cL_law 9 cy room_1 (ExL b Lx xs) FinL 702 [(0, .ref b), (1, .ref (ka S 0 0)), (2, .ref (ka S 30 0)), (3, .ref (ka S 80 0)), (4, .ref (ka S 81 0)), (5, .int (nI z))] [] (wm cy S I2 L2 R2 ++ (wc cy S I L R LP ++ wlo cy S G)) cells slots := by
  have hl31 : lg < 2 ^ 31 := by omega
  rcases lt_or (mS m) p1 with ⟨s, hs, rfl⟩ | hx
  · skip
    rcases lt_or (mS m) p2 with ⟨t, ht, rfl⟩ | hx
    · skip
      by_cases hne : s = t
      · subst hne
        refine JG_aload_n 1 rfl dL_law_702 ?_
        refine JG_aload_n 0 rfl dL_law_703 ?_
        refine JG_iload 5 rfl dL_law_704 ?_
        refine JG_iconst (v := 1) (by decide) dL_law_706 ?_
        refine JG_iadd dL_law_707 ?_
        refine JG_topeq (nI (z + 1)) (by exact nI_add z 1) ?_
        refine JG_sld (vp_in_nI (by omega) (by omega)) dL_law_708 ?_
        refine JG_topeq (nI s) (by rw [nI_toNat (by omega)]; exact e1) ?_
        refine JG_aload_n 0 rfl dL_law_709 ?_
        refine JG_iload 5 rfl dL_law_710 ?_
        refine JG_iconst (v := 2) (by decide) dL_law_712 ?_
        refine JG_iadd dL_law_713 ?_
        refine JG_topeq (nI (z + 2)) (by exact nI_add z 2) ?_
        refine JG_sld (vp_in_nI (by omega) (by omega)) dL_law_714 ?_
        refine JG_topeq (nI s) (by rw [nI_toNat (by omega)]; exact e2) ?_
        refine JG_aload_n 3 rfl dL_law_715 ?_
        refine JG_callH (As := [.ref (ka S 0 0), .int (nI s), .int (nI s), .ref (ka S 80 0)]) (rest := []) (wm cy S I2 L2 R2) [] dL_law_716 (w_relays_2 (c_X7_relays_e hR hI (by omega) hlg hs)) (by rw [List.append_nil]) lm_L_161 kw_L_relays kiniL ks_L_relays kdL_relays ⟨Nat.le_of_ble_eq_true rfl, Nat.le_of_ble_eq_true rfl⟩ (by show cells + 1 ≤ 603072; omega) (by show slots + 6 ≤ 7186538; omega) (Nat.le_of_ble_eq_true rfl) (fun _ w8 r1 => ?_)
        obtain ⟨rfl, w9, hP, rfl⟩ := r1
        refine JG_eq (w' := wm cy S I2 L2 R2 ++ (w9 ++ wlo cy S G)) (st' := [.int 2]) (by rw [List.append_nil]) rfl rfl ?_
        refine JG_istore (lv' := [(0, .ref b), (1, .ref (ka S 0 0)), (2, .ref (ka S 30 0)), (3, .ref (ka S 80 0)), (4, .ref (ka S 81 0)), (5, .int (nI z)), (6, .int 2)]) (by decide) rfl dL_law_719 ?_
        refine JG_aload_n 2 rfl dL_law_721 ?_
        refine JG_aload_n 0 rfl dL_law_722 ?_
        refine JG_iload 5 rfl dL_law_723 ?_
        refine JG_iconst (v := 1) (by decide) dL_law_725 ?_
        refine JG_iadd dL_law_726 ?_
        refine JG_topeq (nI (z + 1)) (by exact nI_add z 1) ?_
        refine JG_sld (vp_in_nI (by omega) (by omega)) dL_law_727 ?_
        refine JG_topeq (nI s) (by rw [nI_toNat (by omega)]; exact e1) ?_
        refine JG_aload_n 0 rfl dL_law_728 ?_
        refine JG_iload 5 rfl dL_law_729 ?_
        refine JG_iconst (v := 2) (by decide) dL_law_731 ?_
        refine JG_iadd dL_law_732 ?_
        refine JG_topeq (nI (z + 2)) (by exact nI_add z 2) ?_
        refine JG_sld (vp_in_nI (by omega) (by omega)) dL_law_733 ?_
        refine JG_topeq (nI s) (by rw [nI_toNat (by omega)]; exact e2) ?_
        refine JG_callX8 (As := [.int (nI s), .int (nI s)]) (rest := []) [] (w9 ++ wlo cy S G) dL_law_734 (c_X8_relays_e hM hR hI (by omega) hs) rfl rfl lm_L_163 kc_yX8_relays ki_yX8_relays kv_yX8_relays kd_yX8_relays ⟨Nat.le_of_ble_eq_true rfl, Nat.le_of_ble_eq_true rfl⟩ (by show (cells + 1) + 0 ≤ 603072; omega) (by show (slots + 6) + 0 ≤ 7186538; omega) (Nat.le_of_ble_eq_true rfl) (fun _ w8 r2 => ?_)
        obtain ⟨rfl, I3, L3, rfl, hM3⟩ := r2
        refine JG_eq (w' := wm cy S I3 L3 R2 ++ (w9 ++ wlo cy S G)) (st' := [.int 0]) rfl rfl rfl ?_
        refine JG_istore (lv' := [(0, .ref b), (1, .ref (ka S 0 0)), (2, .ref (ka S 30 0)), (3, .ref (ka S 80 0)), (4, .ref (ka S 81 0)), (5, .int (nI z)), (6, .int 2), (7, .int 0)]) (by decide) rfl dL_law_737 ?_
        refine JG_aload_n 2 rfl dL_law_739 ?_
        refine JG_callX8 (As := []) (rest := []) [] (w9 ++ wlo cy S G) dL_law_740 (c_X8_thrown hM3) rfl rfl lm_L_133 kc_yX8_thrown ki_yX8_thrown kv_yX8_thrown kd_yX8_thrown ⟨Nat.le_of_ble_eq_true rfl, Nat.le_of_ble_eq_true rfl⟩ (by show ((cells + 1) + 0) + 0 ≤ 603072; omega) (by show ((slots + 6) + 0) + 0 ≤ 7186538; omega) (Nat.le_of_ble_eq_true rfl) (fun _ w8 r4 => ?_)
        obtain ⟨rfl, I5, L5, rfl, hM5⟩ := r4
        refine JG_eq (w' := wm cy S I5 L5 R2 ++ (w9 ++ wlo cy S G)) (st' := [.int 2]) rfl rfl rfl ?_
        refine JG_iload 6 rfl dL_law_743 ?_
        refine JG_icmp_eq 750 (by decide) dL_law_745 (fun c6 => ?_) (fun c6 => ?_)
        rotate_left
        · exact absurd (by decide) c6
        refine JG_iload 6 rfl dL_law_750 ?_
        refine JG_if_ne 767 (by decide) dL_law_752 (fun c7 => ?_) (fun c7 => ?_)
        rotate_left
        · exact absurd c7 (by decide)
        refine JG_goto 2268 (by decide) dL_law_767 ?_
        refine JG_sub (lv' := [(0, .ref b), (1, .ref (ka S 0 0)), (2, .ref (ka S 30 0)), (3, .ref (ka S 80 0)), (4, .ref (ka S 81 0)), (5, .int (nI z))]) [0, 1, 2, 3, 4, 5] rfl ?_
        exact kk m _ _ _ _ _ _ _ _ ⟨LP, rc, hP⟩ hI (by omega) hM5 (by omega) (by omega)
      · skip
        by_cases hw : (mWay m (nI s) (nI t)) = []
        · skip
          refine JG_aload_n 1 rfl dL_law_702 ?_
          refine JG_aload_n 0 rfl dL_law_703 ?_
          refine JG_iload 5 rfl dL_law_704 ?_
          refine JG_iconst (v := 1) (by decide) dL_law_706 ?_
          refine JG_iadd dL_law_707 ?_
          refine JG_topeq (nI (z + 1)) (by exact nI_add z 1) ?_
          refine JG_sld (vp_in_nI (by omega) (by omega)) dL_law_708 ?_
          refine JG_topeq (nI s) (by rw [nI_toNat (by omega)]; exact e1) ?_
          refine JG_aload_n 0 rfl dL_law_709 ?_
          refine JG_iload 5 rfl dL_law_710 ?_
          refine JG_iconst (v := 2) (by decide) dL_law_712 ?_
          refine JG_iadd dL_law_713 ?_
          refine JG_topeq (nI (z + 2)) (by exact nI_add z 2) ?_
          refine JG_sld (vp_in_nI (by omega) (by omega)) dL_law_714 ?_
          refine JG_topeq (nI t) (by rw [nI_toNat (by omega)]; exact e2) ?_
          refine JG_aload_n 3 rfl dL_law_715 ?_
          refine JG_callH (As := [.ref (ka S 0 0), .int (nI s), .int (nI t), .ref (ka S 80 0)]) (rest := []) (wm cy S I2 L2 R2) [] dL_law_716 (w_relays_3 (c_X7_relays_n hR hI (by omega) hlg hs ht hne hw)) (by rw [List.append_nil]) lm_L_161 kw_L_relays kiniL ks_L_relays kdL_relays ⟨Nat.le_of_ble_eq_true rfl, Nat.le_of_ble_eq_true rfl⟩ (by show cells + 1 ≤ 603072; omega) (by show slots + 6 ≤ 7186538; omega) (Nat.le_of_ble_eq_true rfl) (fun _ w8 r1 => ?_)
          obtain ⟨rfl, w9, hP, rfl⟩ := r1
          refine JG_eq (w' := wm cy S I2 L2 R2 ++ (w9 ++ wlo cy S G)) (st' := [.int 3]) (by rw [List.append_nil]) rfl rfl ?_
          refine JG_istore (lv' := [(0, .ref b), (1, .ref (ka S 0 0)), (2, .ref (ka S 30 0)), (3, .ref (ka S 80 0)), (4, .ref (ka S 81 0)), (5, .int (nI z)), (6, .int 3)]) (by decide) rfl dL_law_719 ?_
          refine JG_aload_n 2 rfl dL_law_721 ?_
          refine JG_aload_n 0 rfl dL_law_722 ?_
          refine JG_iload 5 rfl dL_law_723 ?_
          refine JG_iconst (v := 1) (by decide) dL_law_725 ?_
          refine JG_iadd dL_law_726 ?_
          refine JG_topeq (nI (z + 1)) (by exact nI_add z 1) ?_
          refine JG_sld (vp_in_nI (by omega) (by omega)) dL_law_727 ?_
          refine JG_topeq (nI s) (by rw [nI_toNat (by omega)]; exact e1) ?_
          refine JG_aload_n 0 rfl dL_law_728 ?_
          refine JG_iload 5 rfl dL_law_729 ?_
          refine JG_iconst (v := 2) (by decide) dL_law_731 ?_
          refine JG_iadd dL_law_732 ?_
          refine JG_topeq (nI (z + 2)) (by exact nI_add z 2) ?_
          refine JG_sld (vp_in_nI (by omega) (by omega)) dL_law_733 ?_
          refine JG_topeq (nI t) (by rw [nI_toNat (by omega)]; exact e2) ?_
          refine JG_callX8 (As := [.int (nI s), .int (nI t)]) (rest := []) [] (w9 ++ wlo cy S G) dL_law_734 (c_X8_relays_n hM hR hI (by omega) hs ht hne hw) rfl rfl lm_L_163 kc_yX8_relays ki_yX8_relays kv_yX8_relays kd_yX8_relays ⟨Nat.le_of_ble_eq_true rfl, Nat.le_of_ble_eq_true rfl⟩ (by show (cells + 1) + 0 ≤ 603072; omega) (by show (slots + 6) + 0 ≤ 7186538; omega) (Nat.le_of_ble_eq_true rfl) (fun _ w8 r2 => ?_)
          obtain ⟨rfl, I3, L3, rfl, hM3⟩ := r2
          refine JG_eq (w' := wm cy S I3 L3 R2 ++ (w9 ++ wlo cy S G)) (st' := [.int 0]) rfl rfl rfl ?_
          refine JG_istore (lv' := [(0, .ref b), (1, .ref (ka S 0 0)), (2, .ref (ka S 30 0)), (3, .ref (ka S 80 0)), (4, .ref (ka S 81 0)), (5, .int (nI z)), (6, .int 3), (7, .int 0)]) (by decide) rfl dL_law_737 ?_
          refine JG_aload_n 2 rfl dL_law_739 ?_
          refine JG_callX8 (As := []) (rest := []) [] (w9 ++ wlo cy S G) dL_law_740 (c_X8_thrown hM3) rfl rfl lm_L_133 kc_yX8_thrown ki_yX8_thrown kv_yX8_thrown kd_yX8_thrown ⟨Nat.le_of_ble_eq_true rfl, Nat.le_of_ble_eq_true rfl⟩ (by show ((cells + 1) + 0) + 0 ≤ 603072; omega) (by show ((slots + 6) + 0) + 0 ≤ 7186538; omega) (Nat.le_of_ble_eq_true rfl) (fun _ w8 r4 => ?_)
          obtain ⟨rfl, I5, L5, rfl, hM5⟩ := r4
          refine JG_eq (w' := wm cy S I5 L5 R2 ++ (w9 ++ wlo cy S G)) (st' := [.int 3]) rfl rfl rfl ?_
          refine JG_iload 6 rfl dL_law_743 ?_
          refine JG_icmp_eq 750 (by decide) dL_law_745 (fun c6 => ?_) (fun c6 => ?_)
          rotate_left
          · exact absurd (by decide) c6
          refine JG_iload 6 rfl dL_law_750 ?_
          refine JG_if_ne 767 (by decide) dL_law_752 (fun c7 => ?_) (fun c7 => ?_)
          rotate_left
          · exact absurd c7 (by decide)
          refine JG_goto 2268 (by decide) dL_law_767 ?_
          refine JG_sub (lv' := [(0, .ref b), (1, .ref (ka S 0 0)), (2, .ref (ka S 30 0)), (3, .ref (ka S 80 0)), (4, .ref (ka S 81 0)), (5, .int (nI z))]) [0, 1, 2, 3, 4, 5] rfl ?_
          exact kk m _ _ _ _ _ _ _ _ ⟨LP, rc, hP⟩ hI (by omega) hM5 (by omega) (by omega)
        · skip
          refine JG_aload_n 1 rfl dL_law_702 ?_
          refine JG_aload_n 0 rfl dL_law_703 ?_
          refine JG_iload 5 rfl dL_law_704 ?_
          refine JG_iconst (v := 1) (by decide) dL_law_706 ?_
          refine JG_iadd dL_law_707 ?_
          refine JG_topeq (nI (z + 1)) (by exact nI_add z 1) ?_
          refine JG_sld (vp_in_nI (by omega) (by omega)) dL_law_708 ?_
          refine JG_topeq (nI s) (by rw [nI_toNat (by omega)]; exact e1) ?_
          refine JG_aload_n 0 rfl dL_law_709 ?_
          refine JG_iload 5 rfl dL_law_710 ?_
          refine JG_iconst (v := 2) (by decide) dL_law_712 ?_
          refine JG_iadd dL_law_713 ?_
          refine JG_topeq (nI (z + 2)) (by exact nI_add z 2) ?_
          refine JG_sld (vp_in_nI (by omega) (by omega)) dL_law_714 ?_
          refine JG_topeq (nI t) (by rw [nI_toNat (by omega)]; exact e2) ?_
          refine JG_aload_n 3 rfl dL_law_715 ?_
          refine JG_callH (As := [.ref (ka S 0 0), .int (nI s), .int (nI t), .ref (ka S 80 0)]) (rest := []) (wm cy S I2 L2 R2) [] dL_law_716 (w_relays_s  (c_X7_relays_s hR hI (by omega) hlg hs ht hne hw)) (by rw [List.append_nil]) lm_L_161 kw_L_relays kiniL ks_L_relays kdL_relays ⟨Nat.le_of_ble_eq_true rfl, Nat.le_of_ble_eq_true rfl⟩ (by show cells + 0 ≤ 603072; omega) (by show slots + 0 ≤ 7186538; omega) (Nat.le_of_ble_eq_true rfl) (fun _ w8 r1 => ?_)
          obtain ⟨rfl, w9, hP, rfl⟩ := r1
          refine JG_eq (w' := wm cy S I2 L2 R2 ++ (w9 ++ wlo cy S (ku G 80 0 0 (nI ((mWay m (nI s) (nI t)).length - 2)).toInt64))) (st' := [.int 0]) (by rw [List.append_nil]) rfl rfl ?_
          refine JG_istore (lv' := [(0, .ref b), (1, .ref (ka S 0 0)), (2, .ref (ka S 30 0)), (3, .ref (ka S 80 0)), (4, .ref (ka S 81 0)), (5, .int (nI z)), (6, .int 0)]) (by decide) rfl dL_law_719 ?_
          refine JG_aload_n 2 rfl dL_law_721 ?_
          refine JG_aload_n 0 rfl dL_law_722 ?_
          refine JG_iload 5 rfl dL_law_723 ?_
          refine JG_iconst (v := 1) (by decide) dL_law_725 ?_
          refine JG_iadd dL_law_726 ?_
          refine JG_topeq (nI (z + 1)) (by exact nI_add z 1) ?_
          refine JG_sld (vp_in_nI (by omega) (by omega)) dL_law_727 ?_
          refine JG_topeq (nI s) (by rw [nI_toNat (by omega)]; exact e1) ?_
          refine JG_aload_n 0 rfl dL_law_728 ?_
          refine JG_iload 5 rfl dL_law_729 ?_
          refine JG_iconst (v := 2) (by decide) dL_law_731 ?_
          refine JG_iadd dL_law_732 ?_
          refine JG_topeq (nI (z + 2)) (by exact nI_add z 2) ?_
          refine JG_sld (vp_in_nI (by omega) (by omega)) dL_law_733 ?_
          refine JG_topeq (nI t) (by rw [nI_toNat (by omega)]; exact e2) ?_
          refine JG_callX8 (As := [.int (nI s), .int (nI t)]) (rest := []) [] (w9 ++ wlo cy S (ku G 80 0 0 (nI ((mWay m (nI s) (nI t)).length - 2)).toInt64)) dL_law_734 (c_X8_relays_s hM hR hI (by omega) hs ht hne hw) rfl rfl lm_L_163 kc_yX8_relays ki_yX8_relays kv_yX8_relays kd_yX8_relays ⟨Nat.le_of_ble_eq_true rfl, Nat.le_of_ble_eq_true rfl⟩ (by show (cells + 0) + 0 ≤ 603072; omega) (by show (slots + 0) + 0 ≤ 7186538; omega) (Nat.le_of_ble_eq_true rfl) (fun _ w8 r2 => ?_)
          obtain ⟨rfl, I3, L3, rfl, hM3⟩ := r2
          refine JG_eq (w' := wm cy S I3 L3 R2 ++ (w9 ++ wlo cy S (ku G 80 0 0 (nI ((mWay m (nI s) (nI t)).length - 2)).toInt64))) (st' := [.int (nI ((mWay m (nI s) (nI t)).length - 2))]) rfl rfl rfl ?_
          refine JG_istore (lv' := [(0, .ref b), (1, .ref (ka S 0 0)), (2, .ref (ka S 30 0)), (3, .ref (ka S 80 0)), (4, .ref (ka S 81 0)), (5, .int (nI z)), (6, .int 0), (7, .int (nI ((mWay m (nI s) (nI t)).length - 2)))]) (by decide) rfl dL_law_737 ?_
          refine JG_aload_n 2 rfl dL_law_739 ?_
          refine JG_callX8 (As := []) (rest := []) [] (w9 ++ wlo cy S (ku G 80 0 0 (nI ((mWay m (nI s) (nI t)).length - 2)).toInt64)) dL_law_740 (c_X8_thrown hM3) rfl rfl lm_L_133 kc_yX8_thrown ki_yX8_thrown kv_yX8_thrown kd_yX8_thrown ⟨Nat.le_of_ble_eq_true rfl, Nat.le_of_ble_eq_true rfl⟩ (by show ((cells + 0) + 0) + 0 ≤ 603072; omega) (by show ((slots + 0) + 0) + 0 ≤ 7186538; omega) (Nat.le_of_ble_eq_true rfl) (fun _ w8 r4 => ?_)
          obtain ⟨rfl, I5, L5, rfl, hM5⟩ := r4
          refine JG_eq (w' := wm cy S I5 L5 R2 ++ (w9 ++ wlo cy S (ku G 80 0 0 (nI ((mWay m (nI s) (nI t)).length - 2)).toInt64))) (st' := [.int 0]) rfl rfl rfl ?_
          refine JG_iload 6 rfl dL_law_743 ?_
          refine JG_icmp_eq 750 (by decide) dL_law_745 (fun c6 => ?_) (fun c6 => ?_)
          rotate_left
          · exact absurd (by decide) c6
          refine JG_iload 6 rfl dL_law_750 ?_
          refine JG_if_ne 767 (by decide) dL_law_752 (fun c7 => ?_) (fun c7 => ?_)
          · exact absurd (by decide) c7
          refine JG_aload_n 3 rfl dL_law_755 ?_
          refine JG_iconst (v := 0) (by decide) dL_law_756 ?_
          refine JG_eq (w' := (wm cy S I5 L5 R2 ++ w9) ++ wlo cy S (ku G 80 0 0 (nI ((mWay m (nI s) (nI t)).length - 2)).toInt64)) (List.append_assoc _ _ _).symm rfl rfl ?_
          refine JG_laldO dL_law_757 ?_
          refine JG_eq (w' := wm cy S I5 L5 R2 ++ (w9 ++ wlo cy S (ku G 80 0 0 (nI ((mWay m (nI s) (nI t)).length - 2)).toInt64))) (st' := [.long (nI ((mWay m (nI s) (nI t)).length - 2)).toInt64]) (List.append_assoc _ _ _) rfl (by rw [ku_eq]) ?_
          refine JG_iload 7 rfl dL_law_758 ?_
          refine JG_i2l dL_law_760 ?_
          refine JG_lcmp (rfl) dL_law_761 ?_
          refine JG_if_eq 767 (by decide) dL_law_762 (fun c8 => ?_) (fun c8 => ?_)
          rotate_left
          · exact absurd (by decide) c8
          refine JG_goto 2268 (by decide) dL_law_767 ?_
          refine JG_sub (lv' := [(0, .ref b), (1, .ref (ka S 0 0)), (2, .ref (ka S 30 0)), (3, .ref (ka S 80 0)), (4, .ref (ka S 81 0)), (5, .int (nI z))]) [0, 1, 2, 3, 4, 5] rfl ?_
          exact kk m _ _ _ _ _ _ _ _ ⟨LP, rc, hP⟩ hI (by omega) hM5 (by omega) (by omega)
    · skip
      refine JG_aload_n 1 rfl dL_law_702 ?_
      refine JG_aload_n 0 rfl dL_law_703 ?_
      refine JG_iload 5 rfl dL_law_704 ?_
      refine JG_iconst (v := 1) (by decide) dL_law_706 ?_
      refine JG_iadd dL_law_707 ?_
      refine JG_topeq (nI (z + 1)) (by exact nI_add z 1) ?_
      refine JG_sld (vp_in_nI (by omega) (by omega)) dL_law_708 ?_
      refine JG_topeq (nI s) (by rw [nI_toNat (by omega)]; exact e1) ?_
      refine JG_aload_n 0 rfl dL_law_709 ?_
      refine JG_iload 5 rfl dL_law_710 ?_
      refine JG_iconst (v := 2) (by decide) dL_law_712 ?_
      refine JG_iadd dL_law_713 ?_
      refine JG_topeq (nI (z + 2)) (by exact nI_add z 2) ?_
      refine JG_sld (vp_in_nI (by omega) (by omega)) dL_law_714 ?_
      refine JG_topeq p2 (by rw [nI_toNat (by omega)]; exact e2) ?_
      refine JG_aload_n 3 rfl dL_law_715 ?_
      refine JG_callH (As := [.ref (ka S 0 0), .int (nI s), .int p2, .ref (ka S 80 0)]) (rest := []) (wm cy S I2 L2 R2) [] dL_law_716 (w_relays_1 (c_X7_relays_y hR hI (by omega) hlg hs hx)) (by rw [List.append_nil]) lm_L_161 kw_L_relays kiniL ks_L_relays kdL_relays ⟨Nat.le_of_ble_eq_true rfl, Nat.le_of_ble_eq_true rfl⟩ (by show cells + 1 ≤ 603072; omega) (by show slots + 6 ≤ 7186538; omega) (Nat.le_of_ble_eq_true rfl) (fun _ w8 r1 => ?_)
      obtain ⟨rfl, w9, hP, rfl⟩ := r1
      refine JG_eq (w' := wm cy S I2 L2 R2 ++ (w9 ++ wlo cy S G)) (st' := [.int 1]) (by rw [List.append_nil]) rfl rfl ?_
      refine JG_istore (lv' := [(0, .ref b), (1, .ref (ka S 0 0)), (2, .ref (ka S 30 0)), (3, .ref (ka S 80 0)), (4, .ref (ka S 81 0)), (5, .int (nI z)), (6, .int 1)]) (by decide) rfl dL_law_719 ?_
      refine JG_aload_n 2 rfl dL_law_721 ?_
      refine JG_aload_n 0 rfl dL_law_722 ?_
      refine JG_iload 5 rfl dL_law_723 ?_
      refine JG_iconst (v := 1) (by decide) dL_law_725 ?_
      refine JG_iadd dL_law_726 ?_
      refine JG_topeq (nI (z + 1)) (by exact nI_add z 1) ?_
      refine JG_sld (vp_in_nI (by omega) (by omega)) dL_law_727 ?_
      refine JG_topeq (nI s) (by rw [nI_toNat (by omega)]; exact e1) ?_
      refine JG_aload_n 0 rfl dL_law_728 ?_
      refine JG_iload 5 rfl dL_law_729 ?_
      refine JG_iconst (v := 2) (by decide) dL_law_731 ?_
      refine JG_iadd dL_law_732 ?_
      refine JG_topeq (nI (z + 2)) (by exact nI_add z 2) ?_
      refine JG_sld (vp_in_nI (by omega) (by omega)) dL_law_733 ?_
      refine JG_topeq p2 (by rw [nI_toNat (by omega)]; exact e2) ?_
      refine JG_callX8 (As := [.int (nI s), .int p2]) (rest := []) [] (w9 ++ wlo cy S G) dL_law_734 (c_X8_relays_y hM hR hI (by omega) hs hx) rfl rfl lm_L_163 kc_yX8_relays ki_yX8_relays kv_yX8_relays kd_yX8_relays ⟨Nat.le_of_ble_eq_true rfl, Nat.le_of_ble_eq_true rfl⟩ (by show (cells + 1) + 0 ≤ 603072; omega) (by show (slots + 6) + 0 ≤ 7186538; omega) (Nat.le_of_ble_eq_true rfl) (fun _ w8 r2 => ?_)
      obtain ⟨rfl, I3, L3, rfl, hM3⟩ := r2
      refine JG_eq (w' := wm cy S I3 L3 R2 ++ (w9 ++ wlo cy S G)) (st' := [.int 0]) rfl rfl rfl ?_
      refine JG_istore (lv' := [(0, .ref b), (1, .ref (ka S 0 0)), (2, .ref (ka S 30 0)), (3, .ref (ka S 80 0)), (4, .ref (ka S 81 0)), (5, .int (nI z)), (6, .int 1), (7, .int 0)]) (by decide) rfl dL_law_737 ?_
      refine JG_aload_n 2 rfl dL_law_739 ?_
      refine JG_callX8 (As := []) (rest := []) [] (w9 ++ wlo cy S G) dL_law_740 (c_X8_thrown hM3) rfl rfl lm_L_133 kc_yX8_thrown ki_yX8_thrown kv_yX8_thrown kd_yX8_thrown ⟨Nat.le_of_ble_eq_true rfl, Nat.le_of_ble_eq_true rfl⟩ (by show ((cells + 1) + 0) + 0 ≤ 603072; omega) (by show ((slots + 6) + 0) + 0 ≤ 7186538; omega) (Nat.le_of_ble_eq_true rfl) (fun _ w8 r4 => ?_)
      obtain ⟨rfl, I5, L5, rfl, hM5⟩ := r4
      refine JG_eq (w' := wm cy S I5 L5 R2 ++ (w9 ++ wlo cy S G)) (st' := [.int 1]) rfl rfl rfl ?_
      refine JG_iload 6 rfl dL_law_743 ?_
      refine JG_icmp_eq 750 (by decide) dL_law_745 (fun c6 => ?_) (fun c6 => ?_)
      rotate_left
      · exact absurd (by decide) c6
      refine JG_iload 6 rfl dL_law_750 ?_
      refine JG_if_ne 767 (by decide) dL_law_752 (fun c7 => ?_) (fun c7 => ?_)
      rotate_left
      · exact absurd c7 (by decide)
      refine JG_goto 2268 (by decide) dL_law_767 ?_
      refine JG_sub (lv' := [(0, .ref b), (1, .ref (ka S 0 0)), (2, .ref (ka S 30 0)), (3, .ref (ka S 80 0)), (4, .ref (ka S 81 0)), (5, .int (nI z))]) [0, 1, 2, 3, 4, 5] rfl ?_
      exact kk m _ _ _ _ _ _ _ _ ⟨LP, rc, hP⟩ hI (by omega) hM5 (by omega) (by omega)
  · skip
    refine JG_aload_n 1 rfl dL_law_702 ?_
    refine JG_aload_n 0 rfl dL_law_703 ?_
    refine JG_iload 5 rfl dL_law_704 ?_
    refine JG_iconst (v := 1) (by decide) dL_law_706 ?_
    refine JG_iadd dL_law_707 ?_
    refine JG_topeq (nI (z + 1)) (by exact nI_add z 1) ?_
    refine JG_sld (vp_in_nI (by omega) (by omega)) dL_law_708 ?_
    refine JG_topeq p1 (by rw [nI_toNat (by omega)]; exact e1) ?_
    refine JG_aload_n 0 rfl dL_law_709 ?_
    refine JG_iload 5 rfl dL_law_710 ?_
    refine JG_iconst (v := 2) (by decide) dL_law_712 ?_
    refine JG_iadd dL_law_713 ?_
    refine JG_topeq (nI (z + 2)) (by exact nI_add z 2) ?_
    refine JG_sld (vp_in_nI (by omega) (by omega)) dL_law_714 ?_
    refine JG_topeq p2 (by rw [nI_toNat (by omega)]; exact e2) ?_
    refine JG_aload_n 3 rfl dL_law_715 ?_
    refine JG_callH (As := [.ref (ka S 0 0), .int p1, .int p2, .ref (ka S 80 0)]) (rest := []) (wm cy S I2 L2 R2) [] dL_law_716 (w_relays_1 (c_X7_relays_x hR hI (by omega) hlg hx)) (by rw [List.append_nil]) lm_L_161 kw_L_relays kiniL ks_L_relays kdL_relays ⟨Nat.le_of_ble_eq_true rfl, Nat.le_of_ble_eq_true rfl⟩ (by show cells + 1 ≤ 603072; omega) (by show slots + 6 ≤ 7186538; omega) (Nat.le_of_ble_eq_true rfl) (fun _ w8 r1 => ?_)
    obtain ⟨rfl, w9, hP, rfl⟩ := r1
    refine JG_eq (w' := wm cy S I2 L2 R2 ++ (w9 ++ wlo cy S G)) (st' := [.int 1]) (by rw [List.append_nil]) rfl rfl ?_
    refine JG_istore (lv' := [(0, .ref b), (1, .ref (ka S 0 0)), (2, .ref (ka S 30 0)), (3, .ref (ka S 80 0)), (4, .ref (ka S 81 0)), (5, .int (nI z)), (6, .int 1)]) (by decide) rfl dL_law_719 ?_
    refine JG_aload_n 2 rfl dL_law_721 ?_
    refine JG_aload_n 0 rfl dL_law_722 ?_
    refine JG_iload 5 rfl dL_law_723 ?_
    refine JG_iconst (v := 1) (by decide) dL_law_725 ?_
    refine JG_iadd dL_law_726 ?_
    refine JG_topeq (nI (z + 1)) (by exact nI_add z 1) ?_
    refine JG_sld (vp_in_nI (by omega) (by omega)) dL_law_727 ?_
    refine JG_topeq p1 (by rw [nI_toNat (by omega)]; exact e1) ?_
    refine JG_aload_n 0 rfl dL_law_728 ?_
    refine JG_iload 5 rfl dL_law_729 ?_
    refine JG_iconst (v := 2) (by decide) dL_law_731 ?_
    refine JG_iadd dL_law_732 ?_
    refine JG_topeq (nI (z + 2)) (by exact nI_add z 2) ?_
    refine JG_sld (vp_in_nI (by omega) (by omega)) dL_law_733 ?_
    refine JG_topeq p2 (by rw [nI_toNat (by omega)]; exact e2) ?_
    refine JG_callX8 (As := [.int p1, .int p2]) (rest := []) [] (w9 ++ wlo cy S G) dL_law_734 (c_X8_relays_x hM hR hI (by omega) hx) rfl rfl lm_L_163 kc_yX8_relays ki_yX8_relays kv_yX8_relays kd_yX8_relays ⟨Nat.le_of_ble_eq_true rfl, Nat.le_of_ble_eq_true rfl⟩ (by show (cells + 1) + 0 ≤ 603072; omega) (by show (slots + 6) + 0 ≤ 7186538; omega) (Nat.le_of_ble_eq_true rfl) (fun _ w8 r2 => ?_)
    obtain ⟨rfl, I3, L3, rfl, hM3⟩ := r2
    refine JG_eq (w' := wm cy S I3 L3 R2 ++ (w9 ++ wlo cy S G)) (st' := [.int 0]) rfl rfl rfl ?_
    refine JG_istore (lv' := [(0, .ref b), (1, .ref (ka S 0 0)), (2, .ref (ka S 30 0)), (3, .ref (ka S 80 0)), (4, .ref (ka S 81 0)), (5, .int (nI z)), (6, .int 1), (7, .int 0)]) (by decide) rfl dL_law_737 ?_
    refine JG_aload_n 2 rfl dL_law_739 ?_
    refine JG_callX8 (As := []) (rest := []) [] (w9 ++ wlo cy S G) dL_law_740 (c_X8_thrown hM3) rfl rfl lm_L_133 kc_yX8_thrown ki_yX8_thrown kv_yX8_thrown kd_yX8_thrown ⟨Nat.le_of_ble_eq_true rfl, Nat.le_of_ble_eq_true rfl⟩ (by show ((cells + 1) + 0) + 0 ≤ 603072; omega) (by show ((slots + 6) + 0) + 0 ≤ 7186538; omega) (Nat.le_of_ble_eq_true rfl) (fun _ w8 r4 => ?_)
    obtain ⟨rfl, I5, L5, rfl, hM5⟩ := r4
    refine JG_eq (w' := wm cy S I5 L5 R2 ++ (w9 ++ wlo cy S G)) (st' := [.int 1]) rfl rfl rfl ?_
    refine JG_iload 6 rfl dL_law_743 ?_
    refine JG_icmp_eq 750 (by decide) dL_law_745 (fun c6 => ?_) (fun c6 => ?_)
    rotate_left
    · exact absurd (by decide) c6
    refine JG_iload 6 rfl dL_law_750 ?_
    refine JG_if_ne 767 (by decide) dL_law_752 (fun c7 => ?_) (fun c7 => ?_)
    rotate_left
    · exact absurd c7 (by decide)
    refine JG_goto 2268 (by decide) dL_law_767 ?_
    refine JG_sub (lv' := [(0, .ref b), (1, .ref (ka S 0 0)), (2, .ref (ka S 30 0)), (3, .ref (ka S 80 0)), (4, .ref (ka S 81 0)), (5, .int (nI z))]) [0, 1, 2, 3, 4, 5] rfl ?_
    exact kk m _ _ _ _ _ _ _ _ ⟨LP, rc, hP⟩ hI (by omega) hM5 (by omega) (by omega)

set_option maxRecDepth 20000 in
set_option maxHeartbeats 1000000 in
theorem lc_relaysByJoining {cy : Nat → ClassId} {S : Nat → Nat → Nat} {I I2 : kI} {L L2 G : kL} {R R2 : kRf} {LP : List Nat} {m : Mu} {rc : Nat → Nat} {ln qu : List Nat} {lg B : Nat} {cd : Int32} {b Lx z cells slots : Nat} {xs : Nat → Int32} {p1 p2 : Int32} (hR : Rel m I L R LP rc ln qu lg) (hI : Inv m B) (hB : B + 100000 < 2 ^ 30) (hlg : lg < 2 ^ 30) (hM : MR m cd I2 L2) (hz : z + 4 < Lx) (hLx : Lx ≤ 2560) (hcl : cells + 101 ≤ 603072) (hsl : slots + 1307 ≤ 7186538) (e1 : xs (z + 1) = p1) (e2 : xs (z + 2) = p2) (kk : ∀ (m' : Mu) (B' : Nat) (w9 : va_W) (I2 : kI) (L2 : kL) (cd : Int32) (G : kL) (c' s' : Nat), (∃ LP rc, RelX cy S LP rc m' w9) → Inv m' B' → B' ≤ B + 90000 → MR m' cd I2 L2 → c' ≤ cells + 100 → s' ≤ slots + 1300 → JG RL cL_law 9 cy room_1 (ExL b Lx xs) FinL 2268 [(0, .ref b), (1, .ref (ka S 0 0)), (2, .ref (ka S 30 0)), (3, .ref (ka S 80 0)), (4, .ref (ka S 81 0)), (5, .int (nI z))] [] (wm cy S I2 L2 R2 ++ (w9 ++ wlo cy S G)) c' s') : JG RL cL_law 9 cy room_1 (ExL b Lx xs) FinL 770 [(0, .ref b), (1, .ref (ka S 0 0)), (2, .ref (ka S 30 0)), (3, .ref (ka S 80 0)), (4, .ref (ka S 81 0)), (5, .int (nI z))] [] (wm cy S I2 L2 R2 ++ (wc cy S I L R LP ++ wlo cy S G)) cells slots := by
  have hl31 : lg < 2 ^ 31 := by omega
  rcases lt_or (mS m) p1 with ⟨s, hs, rfl⟩ | hx
  · skip
    rcases lt_or (mS m) p2 with ⟨t, ht, rfl⟩ | hx
    · skip
      by_cases hne : s = t
      · subst hne
        refine JG_aload_n 1 rfl dL_law_770 ?_
        refine JG_aload_n 0 rfl dL_law_771 ?_
        refine JG_iload 5 rfl dL_law_772 ?_
        refine JG_iconst (v := 1) (by decide) dL_law_774 ?_
        refine JG_iadd dL_law_775 ?_
        refine JG_topeq (nI (z + 1)) (by exact nI_add z 1) ?_
        refine JG_sld (vp_in_nI (by omega) (by omega)) dL_law_776 ?_
        refine JG_topeq (nI s) (by rw [nI_toNat (by omega)]; exact e1) ?_
        refine JG_aload_n 0 rfl dL_law_777 ?_
        refine JG_iload 5 rfl dL_law_778 ?_
        refine JG_iconst (v := 2) (by decide) dL_law_780 ?_
        refine JG_iadd dL_law_781 ?_
        refine JG_topeq (nI (z + 2)) (by exact nI_add z 2) ?_
        refine JG_sld (vp_in_nI (by omega) (by omega)) dL_law_782 ?_
        refine JG_topeq (nI s) (by rw [nI_toNat (by omega)]; exact e2) ?_
        refine JG_aload_n 3 rfl dL_law_783 ?_
        refine JG_callH (As := [.ref (ka S 0 0), .int (nI s), .int (nI s), .ref (ka S 80 0)]) (rest := []) (wm cy S I2 L2 R2) [] dL_law_784 (w_relaysByJoining_2 (c_X7_relaysByJoining_e hR hI (by omega) hlg hs)) (by rw [List.append_nil]) lm_L_164 kw_L_relaysByJoining kiniL ks_L_relaysByJoining kdL_relaysByJoining ⟨Nat.le_of_ble_eq_true rfl, Nat.le_of_ble_eq_true rfl⟩ (by show cells + 1 ≤ 603072; omega) (by show slots + 6 ≤ 7186538; omega) (Nat.le_of_ble_eq_true rfl) (fun _ w8 r1 => ?_)
        obtain ⟨rfl, w9, hP, rfl⟩ := r1
        refine JG_eq (w' := wm cy S I2 L2 R2 ++ (w9 ++ wlo cy S G)) (st' := [.int 2]) (by rw [List.append_nil]) rfl rfl ?_
        refine JG_istore (lv' := [(0, .ref b), (1, .ref (ka S 0 0)), (2, .ref (ka S 30 0)), (3, .ref (ka S 80 0)), (4, .ref (ka S 81 0)), (5, .int (nI z)), (6, .int 2)]) (by decide) rfl dL_law_787 ?_
        refine JG_aload_n 2 rfl dL_law_789 ?_
        refine JG_aload_n 0 rfl dL_law_790 ?_
        refine JG_iload 5 rfl dL_law_791 ?_
        refine JG_iconst (v := 1) (by decide) dL_law_793 ?_
        refine JG_iadd dL_law_794 ?_
        refine JG_topeq (nI (z + 1)) (by exact nI_add z 1) ?_
        refine JG_sld (vp_in_nI (by omega) (by omega)) dL_law_795 ?_
        refine JG_topeq (nI s) (by rw [nI_toNat (by omega)]; exact e1) ?_
        refine JG_aload_n 0 rfl dL_law_796 ?_
        refine JG_iload 5 rfl dL_law_797 ?_
        refine JG_iconst (v := 2) (by decide) dL_law_799 ?_
        refine JG_iadd dL_law_800 ?_
        refine JG_topeq (nI (z + 2)) (by exact nI_add z 2) ?_
        refine JG_sld (vp_in_nI (by omega) (by omega)) dL_law_801 ?_
        refine JG_topeq (nI s) (by rw [nI_toNat (by omega)]; exact e2) ?_
        refine JG_callX8 (As := [.int (nI s), .int (nI s)]) (rest := []) [] (w9 ++ wlo cy S G) dL_law_802 (c_X8_relaysByJoining_e hM hR hI (by omega) hs) rfl rfl lm_L_166 kc_yX8_relaysByJoining ki_yX8_relaysByJoining kv_yX8_relaysByJoining kd_yX8_relaysByJoining ⟨Nat.le_of_ble_eq_true rfl, Nat.le_of_ble_eq_true rfl⟩ (by show (cells + 1) + 0 ≤ 603072; omega) (by show (slots + 6) + 0 ≤ 7186538; omega) (Nat.le_of_ble_eq_true rfl) (fun _ w8 r2 => ?_)
        obtain ⟨rfl, I3, L3, rfl, hM3⟩ := r2
        refine JG_eq (w' := wm cy S I3 L3 R2 ++ (w9 ++ wlo cy S G)) (st' := [.int 0]) rfl rfl rfl ?_
        refine JG_istore (lv' := [(0, .ref b), (1, .ref (ka S 0 0)), (2, .ref (ka S 30 0)), (3, .ref (ka S 80 0)), (4, .ref (ka S 81 0)), (5, .int (nI z)), (6, .int 2), (7, .int 0)]) (by decide) rfl dL_law_805 ?_
        refine JG_aload_n 2 rfl dL_law_807 ?_
        refine JG_callX8 (As := []) (rest := []) [] (w9 ++ wlo cy S G) dL_law_808 (c_X8_thrown hM3) rfl rfl lm_L_133 kc_yX8_thrown ki_yX8_thrown kv_yX8_thrown kd_yX8_thrown ⟨Nat.le_of_ble_eq_true rfl, Nat.le_of_ble_eq_true rfl⟩ (by show ((cells + 1) + 0) + 0 ≤ 603072; omega) (by show ((slots + 6) + 0) + 0 ≤ 7186538; omega) (Nat.le_of_ble_eq_true rfl) (fun _ w8 r4 => ?_)
        obtain ⟨rfl, I5, L5, rfl, hM5⟩ := r4
        refine JG_eq (w' := wm cy S I5 L5 R2 ++ (w9 ++ wlo cy S G)) (st' := [.int 2]) rfl rfl rfl ?_
        refine JG_iload 6 rfl dL_law_811 ?_
        refine JG_icmp_eq 818 (by decide) dL_law_813 (fun c6 => ?_) (fun c6 => ?_)
        rotate_left
        · exact absurd (by decide) c6
        refine JG_iload 6 rfl dL_law_818 ?_
        refine JG_if_ne 835 (by decide) dL_law_820 (fun c7 => ?_) (fun c7 => ?_)
        rotate_left
        · exact absurd c7 (by decide)
        refine JG_goto 2268 (by decide) dL_law_835 ?_
        refine JG_sub (lv' := [(0, .ref b), (1, .ref (ka S 0 0)), (2, .ref (ka S 30 0)), (3, .ref (ka S 80 0)), (4, .ref (ka S 81 0)), (5, .int (nI z))]) [0, 1, 2, 3, 4, 5] rfl ?_
        exact kk m _ _ _ _ _ _ _ _ ⟨LP, rc, hP⟩ hI (by omega) hM5 (by omega) (by omega)
      · skip
        by_cases hw : (mWay m (nI s) (nI t)) = []
        · skip
          refine JG_aload_n 1 rfl dL_law_770 ?_
          refine JG_aload_n 0 rfl dL_law_771 ?_
          refine JG_iload 5 rfl dL_law_772 ?_
          refine JG_iconst (v := 1) (by decide) dL_law_774 ?_
          refine JG_iadd dL_law_775 ?_
          refine JG_topeq (nI (z + 1)) (by exact nI_add z 1) ?_
          refine JG_sld (vp_in_nI (by omega) (by omega)) dL_law_776 ?_
          refine JG_topeq (nI s) (by rw [nI_toNat (by omega)]; exact e1) ?_
          refine JG_aload_n 0 rfl dL_law_777 ?_
          refine JG_iload 5 rfl dL_law_778 ?_
          refine JG_iconst (v := 2) (by decide) dL_law_780 ?_
          refine JG_iadd dL_law_781 ?_
          refine JG_topeq (nI (z + 2)) (by exact nI_add z 2) ?_
          refine JG_sld (vp_in_nI (by omega) (by omega)) dL_law_782 ?_
          refine JG_topeq (nI t) (by rw [nI_toNat (by omega)]; exact e2) ?_
          refine JG_aload_n 3 rfl dL_law_783 ?_
          refine JG_callH (As := [.ref (ka S 0 0), .int (nI s), .int (nI t), .ref (ka S 80 0)]) (rest := []) (wm cy S I2 L2 R2) [] dL_law_784 (w_relaysByJoining_3 (c_X7_relaysByJoining_n hR hI (by omega) hlg hs ht hne hw)) (by rw [List.append_nil]) lm_L_164 kw_L_relaysByJoining kiniL ks_L_relaysByJoining kdL_relaysByJoining ⟨Nat.le_of_ble_eq_true rfl, Nat.le_of_ble_eq_true rfl⟩ (by show cells + 1 ≤ 603072; omega) (by show slots + 6 ≤ 7186538; omega) (Nat.le_of_ble_eq_true rfl) (fun _ w8 r1 => ?_)
          obtain ⟨rfl, w9, hP, rfl⟩ := r1
          refine JG_eq (w' := wm cy S I2 L2 R2 ++ (w9 ++ wlo cy S G)) (st' := [.int 3]) (by rw [List.append_nil]) rfl rfl ?_
          refine JG_istore (lv' := [(0, .ref b), (1, .ref (ka S 0 0)), (2, .ref (ka S 30 0)), (3, .ref (ka S 80 0)), (4, .ref (ka S 81 0)), (5, .int (nI z)), (6, .int 3)]) (by decide) rfl dL_law_787 ?_
          refine JG_aload_n 2 rfl dL_law_789 ?_
          refine JG_aload_n 0 rfl dL_law_790 ?_
          refine JG_iload 5 rfl dL_law_791 ?_
          refine JG_iconst (v := 1) (by decide) dL_law_793 ?_
          refine JG_iadd dL_law_794 ?_
          refine JG_topeq (nI (z + 1)) (by exact nI_add z 1) ?_
          refine JG_sld (vp_in_nI (by omega) (by omega)) dL_law_795 ?_
          refine JG_topeq (nI s) (by rw [nI_toNat (by omega)]; exact e1) ?_
          refine JG_aload_n 0 rfl dL_law_796 ?_
          refine JG_iload 5 rfl dL_law_797 ?_
          refine JG_iconst (v := 2) (by decide) dL_law_799 ?_
          refine JG_iadd dL_law_800 ?_
          refine JG_topeq (nI (z + 2)) (by exact nI_add z 2) ?_
          refine JG_sld (vp_in_nI (by omega) (by omega)) dL_law_801 ?_
          refine JG_topeq (nI t) (by rw [nI_toNat (by omega)]; exact e2) ?_
          refine JG_callX8 (As := [.int (nI s), .int (nI t)]) (rest := []) [] (w9 ++ wlo cy S G) dL_law_802 (c_X8_relaysByJoining_n hM hR hI (by omega) hs ht hne hw) rfl rfl lm_L_166 kc_yX8_relaysByJoining ki_yX8_relaysByJoining kv_yX8_relaysByJoining kd_yX8_relaysByJoining ⟨Nat.le_of_ble_eq_true rfl, Nat.le_of_ble_eq_true rfl⟩ (by show (cells + 1) + 0 ≤ 603072; omega) (by show (slots + 6) + 0 ≤ 7186538; omega) (Nat.le_of_ble_eq_true rfl) (fun _ w8 r2 => ?_)
          obtain ⟨rfl, I3, L3, rfl, hM3⟩ := r2
          refine JG_eq (w' := wm cy S I3 L3 R2 ++ (w9 ++ wlo cy S G)) (st' := [.int 0]) rfl rfl rfl ?_
          refine JG_istore (lv' := [(0, .ref b), (1, .ref (ka S 0 0)), (2, .ref (ka S 30 0)), (3, .ref (ka S 80 0)), (4, .ref (ka S 81 0)), (5, .int (nI z)), (6, .int 3), (7, .int 0)]) (by decide) rfl dL_law_805 ?_
          refine JG_aload_n 2 rfl dL_law_807 ?_
          refine JG_callX8 (As := []) (rest := []) [] (w9 ++ wlo cy S G) dL_law_808 (c_X8_thrown hM3) rfl rfl lm_L_133 kc_yX8_thrown ki_yX8_thrown kv_yX8_thrown kd_yX8_thrown ⟨Nat.le_of_ble_eq_true rfl, Nat.le_of_ble_eq_true rfl⟩ (by show ((cells + 1) + 0) + 0 ≤ 603072; omega) (by show ((slots + 6) + 0) + 0 ≤ 7186538; omega) (Nat.le_of_ble_eq_true rfl) (fun _ w8 r4 => ?_)
          obtain ⟨rfl, I5, L5, rfl, hM5⟩ := r4
          refine JG_eq (w' := wm cy S I5 L5 R2 ++ (w9 ++ wlo cy S G)) (st' := [.int 3]) rfl rfl rfl ?_
          refine JG_iload 6 rfl dL_law_811 ?_
          refine JG_icmp_eq 818 (by decide) dL_law_813 (fun c6 => ?_) (fun c6 => ?_)
          rotate_left
          · exact absurd (by decide) c6
          refine JG_iload 6 rfl dL_law_818 ?_
          refine JG_if_ne 835 (by decide) dL_law_820 (fun c7 => ?_) (fun c7 => ?_)
          rotate_left
          · exact absurd c7 (by decide)
          refine JG_goto 2268 (by decide) dL_law_835 ?_
          refine JG_sub (lv' := [(0, .ref b), (1, .ref (ka S 0 0)), (2, .ref (ka S 30 0)), (3, .ref (ka S 80 0)), (4, .ref (ka S 81 0)), (5, .int (nI z))]) [0, 1, 2, 3, 4, 5] rfl ?_
          exact kk m _ _ _ _ _ _ _ _ ⟨LP, rc, hP⟩ hI (by omega) hM5 (by omega) (by omega)
        · skip
          refine JG_aload_n 1 rfl dL_law_770 ?_
          refine JG_aload_n 0 rfl dL_law_771 ?_
          refine JG_iload 5 rfl dL_law_772 ?_
          refine JG_iconst (v := 1) (by decide) dL_law_774 ?_
          refine JG_iadd dL_law_775 ?_
          refine JG_topeq (nI (z + 1)) (by exact nI_add z 1) ?_
          refine JG_sld (vp_in_nI (by omega) (by omega)) dL_law_776 ?_
          refine JG_topeq (nI s) (by rw [nI_toNat (by omega)]; exact e1) ?_
          refine JG_aload_n 0 rfl dL_law_777 ?_
          refine JG_iload 5 rfl dL_law_778 ?_
          refine JG_iconst (v := 2) (by decide) dL_law_780 ?_
          refine JG_iadd dL_law_781 ?_
          refine JG_topeq (nI (z + 2)) (by exact nI_add z 2) ?_
          refine JG_sld (vp_in_nI (by omega) (by omega)) dL_law_782 ?_
          refine JG_topeq (nI t) (by rw [nI_toNat (by omega)]; exact e2) ?_
          refine JG_aload_n 3 rfl dL_law_783 ?_
          refine JG_callH (As := [.ref (ka S 0 0), .int (nI s), .int (nI t), .ref (ka S 80 0)]) (rest := []) (wm cy S I2 L2 R2) [] dL_law_784 (w_relaysByJoining_s  (c_X7_relaysByJoining_s hR hI (by omega) hlg hs ht hne hw)) (by rw [List.append_nil]) lm_L_164 kw_L_relaysByJoining kiniL ks_L_relaysByJoining kdL_relaysByJoining ⟨Nat.le_of_ble_eq_true rfl, Nat.le_of_ble_eq_true rfl⟩ (by show cells + 0 ≤ 603072; omega) (by show slots + 0 ≤ 7186538; omega) (Nat.le_of_ble_eq_true rfl) (fun _ w8 r1 => ?_)
          obtain ⟨rfl, w9, hP, rfl⟩ := r1
          refine JG_eq (w' := wm cy S I2 L2 R2 ++ (w9 ++ wlo cy S (ku G 80 0 0 (nI ((mWay m (nI s) (nI t)).length - 2)).toInt64))) (st' := [.int 0]) (by rw [List.append_nil]) rfl rfl ?_
          refine JG_istore (lv' := [(0, .ref b), (1, .ref (ka S 0 0)), (2, .ref (ka S 30 0)), (3, .ref (ka S 80 0)), (4, .ref (ka S 81 0)), (5, .int (nI z)), (6, .int 0)]) (by decide) rfl dL_law_787 ?_
          refine JG_aload_n 2 rfl dL_law_789 ?_
          refine JG_aload_n 0 rfl dL_law_790 ?_
          refine JG_iload 5 rfl dL_law_791 ?_
          refine JG_iconst (v := 1) (by decide) dL_law_793 ?_
          refine JG_iadd dL_law_794 ?_
          refine JG_topeq (nI (z + 1)) (by exact nI_add z 1) ?_
          refine JG_sld (vp_in_nI (by omega) (by omega)) dL_law_795 ?_
          refine JG_topeq (nI s) (by rw [nI_toNat (by omega)]; exact e1) ?_
          refine JG_aload_n 0 rfl dL_law_796 ?_
          refine JG_iload 5 rfl dL_law_797 ?_
          refine JG_iconst (v := 2) (by decide) dL_law_799 ?_
          refine JG_iadd dL_law_800 ?_
          refine JG_topeq (nI (z + 2)) (by exact nI_add z 2) ?_
          refine JG_sld (vp_in_nI (by omega) (by omega)) dL_law_801 ?_
          refine JG_topeq (nI t) (by rw [nI_toNat (by omega)]; exact e2) ?_
          refine JG_callX8 (As := [.int (nI s), .int (nI t)]) (rest := []) [] (w9 ++ wlo cy S (ku G 80 0 0 (nI ((mWay m (nI s) (nI t)).length - 2)).toInt64)) dL_law_802 (c_X8_relaysByJoining_s hM hR hI (by omega) hs ht hne hw) rfl rfl lm_L_166 kc_yX8_relaysByJoining ki_yX8_relaysByJoining kv_yX8_relaysByJoining kd_yX8_relaysByJoining ⟨Nat.le_of_ble_eq_true rfl, Nat.le_of_ble_eq_true rfl⟩ (by show (cells + 0) + 0 ≤ 603072; omega) (by show (slots + 0) + 0 ≤ 7186538; omega) (Nat.le_of_ble_eq_true rfl) (fun _ w8 r2 => ?_)
          obtain ⟨rfl, I3, L3, rfl, hM3⟩ := r2
          refine JG_eq (w' := wm cy S I3 L3 R2 ++ (w9 ++ wlo cy S (ku G 80 0 0 (nI ((mWay m (nI s) (nI t)).length - 2)).toInt64))) (st' := [.int (nI ((mWay m (nI s) (nI t)).length - 2))]) rfl rfl rfl ?_
          refine JG_istore (lv' := [(0, .ref b), (1, .ref (ka S 0 0)), (2, .ref (ka S 30 0)), (3, .ref (ka S 80 0)), (4, .ref (ka S 81 0)), (5, .int (nI z)), (6, .int 0), (7, .int (nI ((mWay m (nI s) (nI t)).length - 2)))]) (by decide) rfl dL_law_805 ?_
          refine JG_aload_n 2 rfl dL_law_807 ?_
          refine JG_callX8 (As := []) (rest := []) [] (w9 ++ wlo cy S (ku G 80 0 0 (nI ((mWay m (nI s) (nI t)).length - 2)).toInt64)) dL_law_808 (c_X8_thrown hM3) rfl rfl lm_L_133 kc_yX8_thrown ki_yX8_thrown kv_yX8_thrown kd_yX8_thrown ⟨Nat.le_of_ble_eq_true rfl, Nat.le_of_ble_eq_true rfl⟩ (by show ((cells + 0) + 0) + 0 ≤ 603072; omega) (by show ((slots + 0) + 0) + 0 ≤ 7186538; omega) (Nat.le_of_ble_eq_true rfl) (fun _ w8 r4 => ?_)
          obtain ⟨rfl, I5, L5, rfl, hM5⟩ := r4
          refine JG_eq (w' := wm cy S I5 L5 R2 ++ (w9 ++ wlo cy S (ku G 80 0 0 (nI ((mWay m (nI s) (nI t)).length - 2)).toInt64))) (st' := [.int 0]) rfl rfl rfl ?_
          refine JG_iload 6 rfl dL_law_811 ?_
          refine JG_icmp_eq 818 (by decide) dL_law_813 (fun c6 => ?_) (fun c6 => ?_)
          rotate_left
          · exact absurd (by decide) c6
          refine JG_iload 6 rfl dL_law_818 ?_
          refine JG_if_ne 835 (by decide) dL_law_820 (fun c7 => ?_) (fun c7 => ?_)
          · exact absurd (by decide) c7
          refine JG_aload_n 3 rfl dL_law_823 ?_
          refine JG_iconst (v := 0) (by decide) dL_law_824 ?_
          refine JG_eq (w' := (wm cy S I5 L5 R2 ++ w9) ++ wlo cy S (ku G 80 0 0 (nI ((mWay m (nI s) (nI t)).length - 2)).toInt64)) (List.append_assoc _ _ _).symm rfl rfl ?_
          refine JG_laldO dL_law_825 ?_
          refine JG_eq (w' := wm cy S I5 L5 R2 ++ (w9 ++ wlo cy S (ku G 80 0 0 (nI ((mWay m (nI s) (nI t)).length - 2)).toInt64))) (st' := [.long (nI ((mWay m (nI s) (nI t)).length - 2)).toInt64]) (List.append_assoc _ _ _) rfl (by rw [ku_eq]) ?_
          refine JG_iload 7 rfl dL_law_826 ?_
          refine JG_i2l dL_law_828 ?_
          refine JG_lcmp (rfl) dL_law_829 ?_
          refine JG_if_eq 835 (by decide) dL_law_830 (fun c8 => ?_) (fun c8 => ?_)
          rotate_left
          · exact absurd (by decide) c8
          refine JG_goto 2268 (by decide) dL_law_835 ?_
          refine JG_sub (lv' := [(0, .ref b), (1, .ref (ka S 0 0)), (2, .ref (ka S 30 0)), (3, .ref (ka S 80 0)), (4, .ref (ka S 81 0)), (5, .int (nI z))]) [0, 1, 2, 3, 4, 5] rfl ?_
          exact kk m _ _ _ _ _ _ _ _ ⟨LP, rc, hP⟩ hI (by omega) hM5 (by omega) (by omega)
    · skip
      refine JG_aload_n 1 rfl dL_law_770 ?_
      refine JG_aload_n 0 rfl dL_law_771 ?_
      refine JG_iload 5 rfl dL_law_772 ?_
      refine JG_iconst (v := 1) (by decide) dL_law_774 ?_
      refine JG_iadd dL_law_775 ?_
      refine JG_topeq (nI (z + 1)) (by exact nI_add z 1) ?_
      refine JG_sld (vp_in_nI (by omega) (by omega)) dL_law_776 ?_
      refine JG_topeq (nI s) (by rw [nI_toNat (by omega)]; exact e1) ?_
      refine JG_aload_n 0 rfl dL_law_777 ?_
      refine JG_iload 5 rfl dL_law_778 ?_
      refine JG_iconst (v := 2) (by decide) dL_law_780 ?_
      refine JG_iadd dL_law_781 ?_
      refine JG_topeq (nI (z + 2)) (by exact nI_add z 2) ?_
      refine JG_sld (vp_in_nI (by omega) (by omega)) dL_law_782 ?_
      refine JG_topeq p2 (by rw [nI_toNat (by omega)]; exact e2) ?_
      refine JG_aload_n 3 rfl dL_law_783 ?_
      refine JG_callH (As := [.ref (ka S 0 0), .int (nI s), .int p2, .ref (ka S 80 0)]) (rest := []) (wm cy S I2 L2 R2) [] dL_law_784 (w_relaysByJoining_1 (c_X7_relaysByJoining_y hR hI (by omega) hlg hs hx)) (by rw [List.append_nil]) lm_L_164 kw_L_relaysByJoining kiniL ks_L_relaysByJoining kdL_relaysByJoining ⟨Nat.le_of_ble_eq_true rfl, Nat.le_of_ble_eq_true rfl⟩ (by show cells + 1 ≤ 603072; omega) (by show slots + 6 ≤ 7186538; omega) (Nat.le_of_ble_eq_true rfl) (fun _ w8 r1 => ?_)
      obtain ⟨rfl, w9, hP, rfl⟩ := r1
      refine JG_eq (w' := wm cy S I2 L2 R2 ++ (w9 ++ wlo cy S G)) (st' := [.int 1]) (by rw [List.append_nil]) rfl rfl ?_
      refine JG_istore (lv' := [(0, .ref b), (1, .ref (ka S 0 0)), (2, .ref (ka S 30 0)), (3, .ref (ka S 80 0)), (4, .ref (ka S 81 0)), (5, .int (nI z)), (6, .int 1)]) (by decide) rfl dL_law_787 ?_
      refine JG_aload_n 2 rfl dL_law_789 ?_
      refine JG_aload_n 0 rfl dL_law_790 ?_
      refine JG_iload 5 rfl dL_law_791 ?_
      refine JG_iconst (v := 1) (by decide) dL_law_793 ?_
      refine JG_iadd dL_law_794 ?_
      refine JG_topeq (nI (z + 1)) (by exact nI_add z 1) ?_
      refine JG_sld (vp_in_nI (by omega) (by omega)) dL_law_795 ?_
      refine JG_topeq (nI s) (by rw [nI_toNat (by omega)]; exact e1) ?_
      refine JG_aload_n 0 rfl dL_law_796 ?_
      refine JG_iload 5 rfl dL_law_797 ?_
      refine JG_iconst (v := 2) (by decide) dL_law_799 ?_
      refine JG_iadd dL_law_800 ?_
      refine JG_topeq (nI (z + 2)) (by exact nI_add z 2) ?_
      refine JG_sld (vp_in_nI (by omega) (by omega)) dL_law_801 ?_
      refine JG_topeq p2 (by rw [nI_toNat (by omega)]; exact e2) ?_
      refine JG_callX8 (As := [.int (nI s), .int p2]) (rest := []) [] (w9 ++ wlo cy S G) dL_law_802 (c_X8_relaysByJoining_y hM hR hI (by omega) hs hx) rfl rfl lm_L_166 kc_yX8_relaysByJoining ki_yX8_relaysByJoining kv_yX8_relaysByJoining kd_yX8_relaysByJoining ⟨Nat.le_of_ble_eq_true rfl, Nat.le_of_ble_eq_true rfl⟩ (by show (cells + 1) + 0 ≤ 603072; omega) (by show (slots + 6) + 0 ≤ 7186538; omega) (Nat.le_of_ble_eq_true rfl) (fun _ w8 r2 => ?_)
      obtain ⟨rfl, I3, L3, rfl, hM3⟩ := r2
      refine JG_eq (w' := wm cy S I3 L3 R2 ++ (w9 ++ wlo cy S G)) (st' := [.int 0]) rfl rfl rfl ?_
      refine JG_istore (lv' := [(0, .ref b), (1, .ref (ka S 0 0)), (2, .ref (ka S 30 0)), (3, .ref (ka S 80 0)), (4, .ref (ka S 81 0)), (5, .int (nI z)), (6, .int 1), (7, .int 0)]) (by decide) rfl dL_law_805 ?_
      refine JG_aload_n 2 rfl dL_law_807 ?_
      refine JG_callX8 (As := []) (rest := []) [] (w9 ++ wlo cy S G) dL_law_808 (c_X8_thrown hM3) rfl rfl lm_L_133 kc_yX8_thrown ki_yX8_thrown kv_yX8_thrown kd_yX8_thrown ⟨Nat.le_of_ble_eq_true rfl, Nat.le_of_ble_eq_true rfl⟩ (by show ((cells + 1) + 0) + 0 ≤ 603072; omega) (by show ((slots + 6) + 0) + 0 ≤ 7186538; omega) (Nat.le_of_ble_eq_true rfl) (fun _ w8 r4 => ?_)
      obtain ⟨rfl, I5, L5, rfl, hM5⟩ := r4
      refine JG_eq (w' := wm cy S I5 L5 R2 ++ (w9 ++ wlo cy S G)) (st' := [.int 1]) rfl rfl rfl ?_
      refine JG_iload 6 rfl dL_law_811 ?_
      refine JG_icmp_eq 818 (by decide) dL_law_813 (fun c6 => ?_) (fun c6 => ?_)
      rotate_left
      · exact absurd (by decide) c6
      refine JG_iload 6 rfl dL_law_818 ?_
      refine JG_if_ne 835 (by decide) dL_law_820 (fun c7 => ?_) (fun c7 => ?_)
      rotate_left
      · exact absurd c7 (by decide)
      refine JG_goto 2268 (by decide) dL_law_835 ?_
      refine JG_sub (lv' := [(0, .ref b), (1, .ref (ka S 0 0)), (2, .ref (ka S 30 0)), (3, .ref (ka S 80 0)), (4, .ref (ka S 81 0)), (5, .int (nI z))]) [0, 1, 2, 3, 4, 5] rfl ?_
      exact kk m _ _ _ _ _ _ _ _ ⟨LP, rc, hP⟩ hI (by omega) hM5 (by omega) (by omega)
  · skip
    refine JG_aload_n 1 rfl dL_law_770 ?_
    refine JG_aload_n 0 rfl dL_law_771 ?_
    refine JG_iload 5 rfl dL_law_772 ?_
    refine JG_iconst (v := 1) (by decide) dL_law_774 ?_
    refine JG_iadd dL_law_775 ?_
    refine JG_topeq (nI (z + 1)) (by exact nI_add z 1) ?_
    refine JG_sld (vp_in_nI (by omega) (by omega)) dL_law_776 ?_
    refine JG_topeq p1 (by rw [nI_toNat (by omega)]; exact e1) ?_
    refine JG_aload_n 0 rfl dL_law_777 ?_
    refine JG_iload 5 rfl dL_law_778 ?_
    refine JG_iconst (v := 2) (by decide) dL_law_780 ?_
    refine JG_iadd dL_law_781 ?_
    refine JG_topeq (nI (z + 2)) (by exact nI_add z 2) ?_
    refine JG_sld (vp_in_nI (by omega) (by omega)) dL_law_782 ?_
    refine JG_topeq p2 (by rw [nI_toNat (by omega)]; exact e2) ?_
    refine JG_aload_n 3 rfl dL_law_783 ?_
    refine JG_callH (As := [.ref (ka S 0 0), .int p1, .int p2, .ref (ka S 80 0)]) (rest := []) (wm cy S I2 L2 R2) [] dL_law_784 (w_relaysByJoining_1 (c_X7_relaysByJoining_x hR hI (by omega) hlg hx)) (by rw [List.append_nil]) lm_L_164 kw_L_relaysByJoining kiniL ks_L_relaysByJoining kdL_relaysByJoining ⟨Nat.le_of_ble_eq_true rfl, Nat.le_of_ble_eq_true rfl⟩ (by show cells + 1 ≤ 603072; omega) (by show slots + 6 ≤ 7186538; omega) (Nat.le_of_ble_eq_true rfl) (fun _ w8 r1 => ?_)
    obtain ⟨rfl, w9, hP, rfl⟩ := r1
    refine JG_eq (w' := wm cy S I2 L2 R2 ++ (w9 ++ wlo cy S G)) (st' := [.int 1]) (by rw [List.append_nil]) rfl rfl ?_
    refine JG_istore (lv' := [(0, .ref b), (1, .ref (ka S 0 0)), (2, .ref (ka S 30 0)), (3, .ref (ka S 80 0)), (4, .ref (ka S 81 0)), (5, .int (nI z)), (6, .int 1)]) (by decide) rfl dL_law_787 ?_
    refine JG_aload_n 2 rfl dL_law_789 ?_
    refine JG_aload_n 0 rfl dL_law_790 ?_
    refine JG_iload 5 rfl dL_law_791 ?_
    refine JG_iconst (v := 1) (by decide) dL_law_793 ?_
    refine JG_iadd dL_law_794 ?_
    refine JG_topeq (nI (z + 1)) (by exact nI_add z 1) ?_
    refine JG_sld (vp_in_nI (by omega) (by omega)) dL_law_795 ?_
    refine JG_topeq p1 (by rw [nI_toNat (by omega)]; exact e1) ?_
    refine JG_aload_n 0 rfl dL_law_796 ?_
    refine JG_iload 5 rfl dL_law_797 ?_
    refine JG_iconst (v := 2) (by decide) dL_law_799 ?_
    refine JG_iadd dL_law_800 ?_
    refine JG_topeq (nI (z + 2)) (by exact nI_add z 2) ?_
    refine JG_sld (vp_in_nI (by omega) (by omega)) dL_law_801 ?_
    refine JG_topeq p2 (by rw [nI_toNat (by omega)]; exact e2) ?_
    refine JG_callX8 (As := [.int p1, .int p2]) (rest := []) [] (w9 ++ wlo cy S G) dL_law_802 (c_X8_relaysByJoining_x hM hR hI (by omega) hx) rfl rfl lm_L_166 kc_yX8_relaysByJoining ki_yX8_relaysByJoining kv_yX8_relaysByJoining kd_yX8_relaysByJoining ⟨Nat.le_of_ble_eq_true rfl, Nat.le_of_ble_eq_true rfl⟩ (by show (cells + 1) + 0 ≤ 603072; omega) (by show (slots + 6) + 0 ≤ 7186538; omega) (Nat.le_of_ble_eq_true rfl) (fun _ w8 r2 => ?_)
    obtain ⟨rfl, I3, L3, rfl, hM3⟩ := r2
    refine JG_eq (w' := wm cy S I3 L3 R2 ++ (w9 ++ wlo cy S G)) (st' := [.int 0]) rfl rfl rfl ?_
    refine JG_istore (lv' := [(0, .ref b), (1, .ref (ka S 0 0)), (2, .ref (ka S 30 0)), (3, .ref (ka S 80 0)), (4, .ref (ka S 81 0)), (5, .int (nI z)), (6, .int 1), (7, .int 0)]) (by decide) rfl dL_law_805 ?_
    refine JG_aload_n 2 rfl dL_law_807 ?_
    refine JG_callX8 (As := []) (rest := []) [] (w9 ++ wlo cy S G) dL_law_808 (c_X8_thrown hM3) rfl rfl lm_L_133 kc_yX8_thrown ki_yX8_thrown kv_yX8_thrown kd_yX8_thrown ⟨Nat.le_of_ble_eq_true rfl, Nat.le_of_ble_eq_true rfl⟩ (by show ((cells + 1) + 0) + 0 ≤ 603072; omega) (by show ((slots + 6) + 0) + 0 ≤ 7186538; omega) (Nat.le_of_ble_eq_true rfl) (fun _ w8 r4 => ?_)
    obtain ⟨rfl, I5, L5, rfl, hM5⟩ := r4
    refine JG_eq (w' := wm cy S I5 L5 R2 ++ (w9 ++ wlo cy S G)) (st' := [.int 1]) rfl rfl rfl ?_
    refine JG_iload 6 rfl dL_law_811 ?_
    refine JG_icmp_eq 818 (by decide) dL_law_813 (fun c6 => ?_) (fun c6 => ?_)
    rotate_left
    · exact absurd (by decide) c6
    refine JG_iload 6 rfl dL_law_818 ?_
    refine JG_if_ne 835 (by decide) dL_law_820 (fun c7 => ?_) (fun c7 => ?_)
    rotate_left
    · exact absurd c7 (by decide)
    refine JG_goto 2268 (by decide) dL_law_835 ?_
    refine JG_sub (lv' := [(0, .ref b), (1, .ref (ka S 0 0)), (2, .ref (ka S 30 0)), (3, .ref (ka S 80 0)), (4, .ref (ka S 81 0)), (5, .int (nI z))]) [0, 1, 2, 3, 4, 5] rfl ?_
    exact kk m _ _ _ _ _ _ _ _ ⟨LP, rc, hP⟩ hI (by omega) hM5 (by omega) (by omega)

set_option maxRecDepth 20000 in
set_option maxHeartbeats 1000000 in
theorem lc_onWay {cy : Nat → ClassId} {S : Nat → Nat → Nat} {I I2 : kI} {L L2 G : kL} {R R2 : kRf} {LP : List Nat} {m : Mu} {rc : Nat → Nat} {ln qu : List Nat} {lg B : Nat} {cd : Int32} {b Lx z cells slots : Nat} {xs : Nat → Int32} {p1 p2 p3 : Int32} (hR : Rel m I L R LP rc ln qu lg) (hI : Inv m B) (hB : B + 100000 < 2 ^ 30) (hlg : lg < 2 ^ 30) (hM : MR m cd I2 L2) (hz : z + 4 < Lx) (hLx : Lx ≤ 2560) (hcl : cells + 101 ≤ 603072) (hsl : slots + 1307 ≤ 7186538) (e1 : xs (z + 1) = p1) (e2 : xs (z + 2) = p2) (e3 : xs (z + 3) = p3) (kk : ∀ (m' : Mu) (B' : Nat) (w9 : va_W) (I2 : kI) (L2 : kL) (cd : Int32) (G : kL) (c' s' : Nat), (∃ LP rc, RelX cy S LP rc m' w9) → Inv m' B' → B' ≤ B + 90000 → MR m' cd I2 L2 → c' ≤ cells + 100 → s' ≤ slots + 1300 → JG RL cL_law 9 cy room_1 (ExL b Lx xs) FinL 2268 [(0, .ref b), (1, .ref (ka S 0 0)), (2, .ref (ka S 30 0)), (3, .ref (ka S 80 0)), (4, .ref (ka S 81 0)), (5, .int (nI z))] [] (wm cy S I2 L2 R2 ++ (w9 ++ wlo cy S G)) c' s') : JG RL cL_law 9 cy room_1 (ExL b Lx xs) FinL 838 [(0, .ref b), (1, .ref (ka S 0 0)), (2, .ref (ka S 30 0)), (3, .ref (ka S 80 0)), (4, .ref (ka S 81 0)), (5, .int (nI z))] [] (wm cy S I2 L2 R2 ++ (wc cy S I L R LP ++ wlo cy S G)) cells slots := by
  have hl31 : lg < 2 ^ 31 := by omega
  rcases lt_or (mS m) p1 with ⟨s, hs, rfl⟩ | hx
  · skip
    rcases lt_or (mS m) p2 with ⟨t, ht, rfl⟩ | hx
    · skip
      by_cases hne : s = t
      · subst hne
        refine JG_aload_n 1 rfl dL_law_838 ?_
        refine JG_aload_n 0 rfl dL_law_839 ?_
        refine JG_iload 5 rfl dL_law_840 ?_
        refine JG_iconst (v := 1) (by decide) dL_law_842 ?_
        refine JG_iadd dL_law_843 ?_
        refine JG_topeq (nI (z + 1)) (by exact nI_add z 1) ?_
        refine JG_sld (vp_in_nI (by omega) (by omega)) dL_law_844 ?_
        refine JG_topeq (nI s) (by rw [nI_toNat (by omega)]; exact e1) ?_
        refine JG_aload_n 0 rfl dL_law_845 ?_
        refine JG_iload 5 rfl dL_law_846 ?_
        refine JG_iconst (v := 2) (by decide) dL_law_848 ?_
        refine JG_iadd dL_law_849 ?_
        refine JG_topeq (nI (z + 2)) (by exact nI_add z 2) ?_
        refine JG_sld (vp_in_nI (by omega) (by omega)) dL_law_850 ?_
        refine JG_topeq (nI s) (by rw [nI_toNat (by omega)]; exact e2) ?_
        refine JG_aload_n 0 rfl dL_law_851 ?_
        refine JG_iload 5 rfl dL_law_852 ?_
        refine JG_iconst (v := 3) (by decide) dL_law_854 ?_
        refine JG_iadd dL_law_855 ?_
        refine JG_topeq (nI (z + 3)) (by exact nI_add z 3) ?_
        refine JG_sld (vp_in_nI (by omega) (by omega)) dL_law_856 ?_
        refine JG_topeq p3 (by rw [nI_toNat (by omega)]; exact e3) ?_
        refine JG_aload_n 3 rfl dL_law_857 ?_
        refine JG_callH (As := [.ref (ka S 0 0), .int (nI s), .int (nI s), .int p3, .ref (ka S 80 0)]) (rest := []) (wm cy S I2 L2 R2) [] dL_law_858 (w_onWay_2 (c_X7_onWay_e hR hI (by omega) hlg hs)) (by rw [List.append_nil]) lm_L_167 kw_L_onWay kiniL ks_L_onWay kdL_onWay ⟨Nat.le_of_ble_eq_true rfl, Nat.le_of_ble_eq_true rfl⟩ (by show cells + 1 ≤ 603072; omega) (by show slots + 6 ≤ 7186538; omega) (Nat.le_of_ble_eq_true rfl) (fun _ w8 r1 => ?_)
        obtain ⟨rfl, w9, hP, rfl⟩ := r1
        refine JG_eq (w' := wm cy S I2 L2 R2 ++ (w9 ++ wlo cy S G)) (st' := [.int 2]) (by rw [List.append_nil]) rfl rfl ?_
        refine JG_istore (lv' := [(0, .ref b), (1, .ref (ka S 0 0)), (2, .ref (ka S 30 0)), (3, .ref (ka S 80 0)), (4, .ref (ka S 81 0)), (5, .int (nI z)), (6, .int 2)]) (by decide) rfl dL_law_861 ?_
        refine JG_aload_n 2 rfl dL_law_863 ?_
        refine JG_aload_n 0 rfl dL_law_864 ?_
        refine JG_iload 5 rfl dL_law_865 ?_
        refine JG_iconst (v := 1) (by decide) dL_law_867 ?_
        refine JG_iadd dL_law_868 ?_
        refine JG_topeq (nI (z + 1)) (by exact nI_add z 1) ?_
        refine JG_sld (vp_in_nI (by omega) (by omega)) dL_law_869 ?_
        refine JG_topeq (nI s) (by rw [nI_toNat (by omega)]; exact e1) ?_
        refine JG_aload_n 0 rfl dL_law_870 ?_
        refine JG_iload 5 rfl dL_law_871 ?_
        refine JG_iconst (v := 2) (by decide) dL_law_873 ?_
        refine JG_iadd dL_law_874 ?_
        refine JG_topeq (nI (z + 2)) (by exact nI_add z 2) ?_
        refine JG_sld (vp_in_nI (by omega) (by omega)) dL_law_875 ?_
        refine JG_topeq (nI s) (by rw [nI_toNat (by omega)]; exact e2) ?_
        refine JG_aload_n 0 rfl dL_law_876 ?_
        refine JG_iload 5 rfl dL_law_877 ?_
        refine JG_iconst (v := 3) (by decide) dL_law_879 ?_
        refine JG_iadd dL_law_880 ?_
        refine JG_topeq (nI (z + 3)) (by exact nI_add z 3) ?_
        refine JG_sld (vp_in_nI (by omega) (by omega)) dL_law_881 ?_
        refine JG_topeq p3 (by rw [nI_toNat (by omega)]; exact e3) ?_
        refine JG_callX8 (As := [.int (nI s), .int (nI s), .int p3]) (rest := []) [] (w9 ++ wlo cy S G) dL_law_882 (c_X8_onWay_e hM hR hI (by omega) hs) rfl rfl lm_L_170 kc_yX8_onWay ki_yX8_onWay kv_yX8_onWay kd_yX8_onWay ⟨Nat.le_of_ble_eq_true rfl, Nat.le_of_ble_eq_true rfl⟩ (by show (cells + 1) + 0 ≤ 603072; omega) (by show (slots + 6) + 0 ≤ 7186538; omega) (Nat.le_of_ble_eq_true rfl) (fun _ w8 r2 => ?_)
        obtain ⟨rfl, I3, L3, rfl, hM3⟩ := r2
        refine JG_eq (w' := wm cy S I3 L3 R2 ++ (w9 ++ wlo cy S G)) (st' := [.int 0]) rfl rfl rfl ?_
        refine JG_istore (lv' := [(0, .ref b), (1, .ref (ka S 0 0)), (2, .ref (ka S 30 0)), (3, .ref (ka S 80 0)), (4, .ref (ka S 81 0)), (5, .int (nI z)), (6, .int 2), (7, .int 0)]) (by decide) rfl dL_law_885 ?_
        refine JG_aload_n 2 rfl dL_law_887 ?_
        refine JG_callX8 (As := []) (rest := []) [] (w9 ++ wlo cy S G) dL_law_888 (c_X8_thrown hM3) rfl rfl lm_L_133 kc_yX8_thrown ki_yX8_thrown kv_yX8_thrown kd_yX8_thrown ⟨Nat.le_of_ble_eq_true rfl, Nat.le_of_ble_eq_true rfl⟩ (by show ((cells + 1) + 0) + 0 ≤ 603072; omega) (by show ((slots + 6) + 0) + 0 ≤ 7186538; omega) (Nat.le_of_ble_eq_true rfl) (fun _ w8 r4 => ?_)
        obtain ⟨rfl, I5, L5, rfl, hM5⟩ := r4
        refine JG_eq (w' := wm cy S I5 L5 R2 ++ (w9 ++ wlo cy S G)) (st' := [.int 2]) rfl rfl rfl ?_
        refine JG_iload 6 rfl dL_law_891 ?_
        refine JG_icmp_eq 898 (by decide) dL_law_893 (fun c6 => ?_) (fun c6 => ?_)
        rotate_left
        · exact absurd (by decide) c6
        refine JG_iload 6 rfl dL_law_898 ?_
        refine JG_if_ne 915 (by decide) dL_law_900 (fun c7 => ?_) (fun c7 => ?_)
        rotate_left
        · exact absurd c7 (by decide)
        refine JG_goto 2268 (by decide) dL_law_915 ?_
        refine JG_sub (lv' := [(0, .ref b), (1, .ref (ka S 0 0)), (2, .ref (ka S 30 0)), (3, .ref (ka S 80 0)), (4, .ref (ka S 81 0)), (5, .int (nI z))]) [0, 1, 2, 3, 4, 5] rfl ?_
        exact kk m _ _ _ _ _ _ _ _ ⟨LP, rc, hP⟩ hI (by omega) hM5 (by omega) (by omega)
      · skip
        rcases lt_or ((mWay m (nI s) (nI t)).length) p3 with ⟨j, hj, rfl⟩ | hx
        · skip
          have hxj : (mWay m (nI s) (nI t))[j]? = some ((mWay m (nI s) (nI t))[j]) := List.getElem?_eq_getElem hj
          refine JG_aload_n 1 rfl dL_law_838 ?_
          refine JG_aload_n 0 rfl dL_law_839 ?_
          refine JG_iload 5 rfl dL_law_840 ?_
          refine JG_iconst (v := 1) (by decide) dL_law_842 ?_
          refine JG_iadd dL_law_843 ?_
          refine JG_topeq (nI (z + 1)) (by exact nI_add z 1) ?_
          refine JG_sld (vp_in_nI (by omega) (by omega)) dL_law_844 ?_
          refine JG_topeq (nI s) (by rw [nI_toNat (by omega)]; exact e1) ?_
          refine JG_aload_n 0 rfl dL_law_845 ?_
          refine JG_iload 5 rfl dL_law_846 ?_
          refine JG_iconst (v := 2) (by decide) dL_law_848 ?_
          refine JG_iadd dL_law_849 ?_
          refine JG_topeq (nI (z + 2)) (by exact nI_add z 2) ?_
          refine JG_sld (vp_in_nI (by omega) (by omega)) dL_law_850 ?_
          refine JG_topeq (nI t) (by rw [nI_toNat (by omega)]; exact e2) ?_
          refine JG_aload_n 0 rfl dL_law_851 ?_
          refine JG_iload 5 rfl dL_law_852 ?_
          refine JG_iconst (v := 3) (by decide) dL_law_854 ?_
          refine JG_iadd dL_law_855 ?_
          refine JG_topeq (nI (z + 3)) (by exact nI_add z 3) ?_
          refine JG_sld (vp_in_nI (by omega) (by omega)) dL_law_856 ?_
          refine JG_topeq (nI j) (by rw [nI_toNat (by omega)]; exact e3) ?_
          refine JG_aload_n 3 rfl dL_law_857 ?_
          refine JG_callH (As := [.ref (ka S 0 0), .int (nI s), .int (nI t), .int (nI j), .ref (ka S 80 0)]) (rest := []) (wm cy S I2 L2 R2) [] dL_law_858 (w_onWay_s  (c_X7_onWay_s hR hI (by omega) hlg hs ht hne hxj)) (by rw [List.append_nil]) lm_L_167 kw_L_onWay kiniL ks_L_onWay kdL_onWay ⟨Nat.le_of_ble_eq_true rfl, Nat.le_of_ble_eq_true rfl⟩ (by show cells + 0 ≤ 603072; omega) (by show slots + 0 ≤ 7186538; omega) (Nat.le_of_ble_eq_true rfl) (fun _ w8 r1 => ?_)
          obtain ⟨rfl, w9, hP, rfl⟩ := r1
          refine JG_eq (w' := wm cy S I2 L2 R2 ++ (w9 ++ wlo cy S (ku G 80 0 0 (nI ((mWay m (nI s) (nI t))[j])).toInt64))) (st' := [.int 0]) (by rw [List.append_nil]) rfl rfl ?_
          refine JG_istore (lv' := [(0, .ref b), (1, .ref (ka S 0 0)), (2, .ref (ka S 30 0)), (3, .ref (ka S 80 0)), (4, .ref (ka S 81 0)), (5, .int (nI z)), (6, .int 0)]) (by decide) rfl dL_law_861 ?_
          refine JG_aload_n 2 rfl dL_law_863 ?_
          refine JG_aload_n 0 rfl dL_law_864 ?_
          refine JG_iload 5 rfl dL_law_865 ?_
          refine JG_iconst (v := 1) (by decide) dL_law_867 ?_
          refine JG_iadd dL_law_868 ?_
          refine JG_topeq (nI (z + 1)) (by exact nI_add z 1) ?_
          refine JG_sld (vp_in_nI (by omega) (by omega)) dL_law_869 ?_
          refine JG_topeq (nI s) (by rw [nI_toNat (by omega)]; exact e1) ?_
          refine JG_aload_n 0 rfl dL_law_870 ?_
          refine JG_iload 5 rfl dL_law_871 ?_
          refine JG_iconst (v := 2) (by decide) dL_law_873 ?_
          refine JG_iadd dL_law_874 ?_
          refine JG_topeq (nI (z + 2)) (by exact nI_add z 2) ?_
          refine JG_sld (vp_in_nI (by omega) (by omega)) dL_law_875 ?_
          refine JG_topeq (nI t) (by rw [nI_toNat (by omega)]; exact e2) ?_
          refine JG_aload_n 0 rfl dL_law_876 ?_
          refine JG_iload 5 rfl dL_law_877 ?_
          refine JG_iconst (v := 3) (by decide) dL_law_879 ?_
          refine JG_iadd dL_law_880 ?_
          refine JG_topeq (nI (z + 3)) (by exact nI_add z 3) ?_
          refine JG_sld (vp_in_nI (by omega) (by omega)) dL_law_881 ?_
          refine JG_topeq (nI j) (by rw [nI_toNat (by omega)]; exact e3) ?_
          refine JG_callX8 (As := [.int (nI s), .int (nI t), .int (nI j)]) (rest := []) [] (w9 ++ wlo cy S (ku G 80 0 0 (nI ((mWay m (nI s) (nI t))[j])).toInt64)) dL_law_882 (c_X8_onWay_s hM hR hI (by omega) hs ht hne hxj) rfl rfl lm_L_170 kc_yX8_onWay ki_yX8_onWay kv_yX8_onWay kd_yX8_onWay ⟨Nat.le_of_ble_eq_true rfl, Nat.le_of_ble_eq_true rfl⟩ (by show (cells + 0) + 0 ≤ 603072; omega) (by show (slots + 0) + 0 ≤ 7186538; omega) (Nat.le_of_ble_eq_true rfl) (fun _ w8 r2 => ?_)
          obtain ⟨rfl, I3, L3, rfl, hM3⟩ := r2
          refine JG_eq (w' := wm cy S I3 L3 R2 ++ (w9 ++ wlo cy S (ku G 80 0 0 (nI ((mWay m (nI s) (nI t))[j])).toInt64))) (st' := [.int (nI ((mWay m (nI s) (nI t))[j]))]) rfl rfl rfl ?_
          refine JG_istore (lv' := [(0, .ref b), (1, .ref (ka S 0 0)), (2, .ref (ka S 30 0)), (3, .ref (ka S 80 0)), (4, .ref (ka S 81 0)), (5, .int (nI z)), (6, .int 0), (7, .int (nI ((mWay m (nI s) (nI t))[j])))]) (by decide) rfl dL_law_885 ?_
          refine JG_aload_n 2 rfl dL_law_887 ?_
          refine JG_callX8 (As := []) (rest := []) [] (w9 ++ wlo cy S (ku G 80 0 0 (nI ((mWay m (nI s) (nI t))[j])).toInt64)) dL_law_888 (c_X8_thrown hM3) rfl rfl lm_L_133 kc_yX8_thrown ki_yX8_thrown kv_yX8_thrown kd_yX8_thrown ⟨Nat.le_of_ble_eq_true rfl, Nat.le_of_ble_eq_true rfl⟩ (by show ((cells + 0) + 0) + 0 ≤ 603072; omega) (by show ((slots + 0) + 0) + 0 ≤ 7186538; omega) (Nat.le_of_ble_eq_true rfl) (fun _ w8 r4 => ?_)
          obtain ⟨rfl, I5, L5, rfl, hM5⟩ := r4
          refine JG_eq (w' := wm cy S I5 L5 R2 ++ (w9 ++ wlo cy S (ku G 80 0 0 (nI ((mWay m (nI s) (nI t))[j])).toInt64))) (st' := [.int 0]) rfl rfl rfl ?_
          refine JG_iload 6 rfl dL_law_891 ?_
          refine JG_icmp_eq 898 (by decide) dL_law_893 (fun c6 => ?_) (fun c6 => ?_)
          rotate_left
          · exact absurd (by decide) c6
          refine JG_iload 6 rfl dL_law_898 ?_
          refine JG_if_ne 915 (by decide) dL_law_900 (fun c7 => ?_) (fun c7 => ?_)
          · exact absurd (by decide) c7
          refine JG_aload_n 3 rfl dL_law_903 ?_
          refine JG_iconst (v := 0) (by decide) dL_law_904 ?_
          refine JG_eq (w' := (wm cy S I5 L5 R2 ++ w9) ++ wlo cy S (ku G 80 0 0 (nI ((mWay m (nI s) (nI t))[j])).toInt64)) (List.append_assoc _ _ _).symm rfl rfl ?_
          refine JG_laldO dL_law_905 ?_
          refine JG_eq (w' := wm cy S I5 L5 R2 ++ (w9 ++ wlo cy S (ku G 80 0 0 (nI ((mWay m (nI s) (nI t))[j])).toInt64))) (st' := [.long (nI ((mWay m (nI s) (nI t))[j])).toInt64]) (List.append_assoc _ _ _) rfl (by rw [ku_eq]) ?_
          refine JG_iload 7 rfl dL_law_906 ?_
          refine JG_i2l dL_law_908 ?_
          refine JG_lcmp (rfl) dL_law_909 ?_
          refine JG_if_eq 915 (by decide) dL_law_910 (fun c8 => ?_) (fun c8 => ?_)
          rotate_left
          · exact absurd (by decide) c8
          refine JG_goto 2268 (by decide) dL_law_915 ?_
          refine JG_sub (lv' := [(0, .ref b), (1, .ref (ka S 0 0)), (2, .ref (ka S 30 0)), (3, .ref (ka S 80 0)), (4, .ref (ka S 81 0)), (5, .int (nI z))]) [0, 1, 2, 3, 4, 5] rfl ?_
          exact kk m _ _ _ _ _ _ _ _ ⟨LP, rc, hP⟩ hI (by omega) hM5 (by omega) (by omega)
        · skip
          by_cases hw : (mWay m (nI s) (nI t)) = []
          · skip
            refine JG_aload_n 1 rfl dL_law_838 ?_
            refine JG_aload_n 0 rfl dL_law_839 ?_
            refine JG_iload 5 rfl dL_law_840 ?_
            refine JG_iconst (v := 1) (by decide) dL_law_842 ?_
            refine JG_iadd dL_law_843 ?_
            refine JG_topeq (nI (z + 1)) (by exact nI_add z 1) ?_
            refine JG_sld (vp_in_nI (by omega) (by omega)) dL_law_844 ?_
            refine JG_topeq (nI s) (by rw [nI_toNat (by omega)]; exact e1) ?_
            refine JG_aload_n 0 rfl dL_law_845 ?_
            refine JG_iload 5 rfl dL_law_846 ?_
            refine JG_iconst (v := 2) (by decide) dL_law_848 ?_
            refine JG_iadd dL_law_849 ?_
            refine JG_topeq (nI (z + 2)) (by exact nI_add z 2) ?_
            refine JG_sld (vp_in_nI (by omega) (by omega)) dL_law_850 ?_
            refine JG_topeq (nI t) (by rw [nI_toNat (by omega)]; exact e2) ?_
            refine JG_aload_n 0 rfl dL_law_851 ?_
            refine JG_iload 5 rfl dL_law_852 ?_
            refine JG_iconst (v := 3) (by decide) dL_law_854 ?_
            refine JG_iadd dL_law_855 ?_
            refine JG_topeq (nI (z + 3)) (by exact nI_add z 3) ?_
            refine JG_sld (vp_in_nI (by omega) (by omega)) dL_law_856 ?_
            refine JG_topeq p3 (by rw [nI_toNat (by omega)]; exact e3) ?_
            refine JG_aload_n 3 rfl dL_law_857 ?_
            refine JG_callH (As := [.ref (ka S 0 0), .int (nI s), .int (nI t), .int p3, .ref (ka S 80 0)]) (rest := []) (wm cy S I2 L2 R2) [] dL_law_858 (w_onWay_3 (c_X7_onWay_n hR hI (by omega) hlg hs ht hne hx)) (by rw [List.append_nil]) lm_L_167 kw_L_onWay kiniL ks_L_onWay kdL_onWay ⟨Nat.le_of_ble_eq_true rfl, Nat.le_of_ble_eq_true rfl⟩ (by show cells + 1 ≤ 603072; omega) (by show slots + 6 ≤ 7186538; omega) (Nat.le_of_ble_eq_true rfl) (fun _ w8 r1 => ?_)
            obtain ⟨rfl, w9, hP, rfl⟩ := r1
            refine JG_eq (w' := wm cy S I2 L2 R2 ++ (w9 ++ wlo cy S G)) (st' := [.int 3]) (by rw [List.append_nil]) rfl rfl ?_
            refine JG_istore (lv' := [(0, .ref b), (1, .ref (ka S 0 0)), (2, .ref (ka S 30 0)), (3, .ref (ka S 80 0)), (4, .ref (ka S 81 0)), (5, .int (nI z)), (6, .int 3)]) (by decide) rfl dL_law_861 ?_
            refine JG_aload_n 2 rfl dL_law_863 ?_
            refine JG_aload_n 0 rfl dL_law_864 ?_
            refine JG_iload 5 rfl dL_law_865 ?_
            refine JG_iconst (v := 1) (by decide) dL_law_867 ?_
            refine JG_iadd dL_law_868 ?_
            refine JG_topeq (nI (z + 1)) (by exact nI_add z 1) ?_
            refine JG_sld (vp_in_nI (by omega) (by omega)) dL_law_869 ?_
            refine JG_topeq (nI s) (by rw [nI_toNat (by omega)]; exact e1) ?_
            refine JG_aload_n 0 rfl dL_law_870 ?_
            refine JG_iload 5 rfl dL_law_871 ?_
            refine JG_iconst (v := 2) (by decide) dL_law_873 ?_
            refine JG_iadd dL_law_874 ?_
            refine JG_topeq (nI (z + 2)) (by exact nI_add z 2) ?_
            refine JG_sld (vp_in_nI (by omega) (by omega)) dL_law_875 ?_
            refine JG_topeq (nI t) (by rw [nI_toNat (by omega)]; exact e2) ?_
            refine JG_aload_n 0 rfl dL_law_876 ?_
            refine JG_iload 5 rfl dL_law_877 ?_
            refine JG_iconst (v := 3) (by decide) dL_law_879 ?_
            refine JG_iadd dL_law_880 ?_
            refine JG_topeq (nI (z + 3)) (by exact nI_add z 3) ?_
            refine JG_sld (vp_in_nI (by omega) (by omega)) dL_law_881 ?_
            refine JG_topeq p3 (by rw [nI_toNat (by omega)]; exact e3) ?_
            refine JG_callX8 (As := [.int (nI s), .int (nI t), .int p3]) (rest := []) [] (w9 ++ wlo cy S G) dL_law_882 (c_X8_onWay_m hM hR hI (by omega) hs ht hne hw) rfl rfl lm_L_170 kc_yX8_onWay ki_yX8_onWay kv_yX8_onWay kd_yX8_onWay ⟨Nat.le_of_ble_eq_true rfl, Nat.le_of_ble_eq_true rfl⟩ (by show (cells + 1) + 0 ≤ 603072; omega) (by show (slots + 6) + 0 ≤ 7186538; omega) (Nat.le_of_ble_eq_true rfl) (fun _ w8 r2 => ?_)
            obtain ⟨rfl, I3, L3, rfl, hM3⟩ := r2
            refine JG_eq (w' := wm cy S I3 L3 R2 ++ (w9 ++ wlo cy S G)) (st' := [.int 0]) rfl rfl rfl ?_
            refine JG_istore (lv' := [(0, .ref b), (1, .ref (ka S 0 0)), (2, .ref (ka S 30 0)), (3, .ref (ka S 80 0)), (4, .ref (ka S 81 0)), (5, .int (nI z)), (6, .int 3), (7, .int 0)]) (by decide) rfl dL_law_885 ?_
            refine JG_aload_n 2 rfl dL_law_887 ?_
            refine JG_callX8 (As := []) (rest := []) [] (w9 ++ wlo cy S G) dL_law_888 (c_X8_thrown hM3) rfl rfl lm_L_133 kc_yX8_thrown ki_yX8_thrown kv_yX8_thrown kd_yX8_thrown ⟨Nat.le_of_ble_eq_true rfl, Nat.le_of_ble_eq_true rfl⟩ (by show ((cells + 1) + 0) + 0 ≤ 603072; omega) (by show ((slots + 6) + 0) + 0 ≤ 7186538; omega) (Nat.le_of_ble_eq_true rfl) (fun _ w8 r4 => ?_)
            obtain ⟨rfl, I5, L5, rfl, hM5⟩ := r4
            refine JG_eq (w' := wm cy S I5 L5 R2 ++ (w9 ++ wlo cy S G)) (st' := [.int 3]) rfl rfl rfl ?_
            refine JG_iload 6 rfl dL_law_891 ?_
            refine JG_icmp_eq 898 (by decide) dL_law_893 (fun c6 => ?_) (fun c6 => ?_)
            rotate_left
            · exact absurd (by decide) c6
            refine JG_iload 6 rfl dL_law_898 ?_
            refine JG_if_ne 915 (by decide) dL_law_900 (fun c7 => ?_) (fun c7 => ?_)
            rotate_left
            · exact absurd c7 (by decide)
            refine JG_goto 2268 (by decide) dL_law_915 ?_
            refine JG_sub (lv' := [(0, .ref b), (1, .ref (ka S 0 0)), (2, .ref (ka S 30 0)), (3, .ref (ka S 80 0)), (4, .ref (ka S 81 0)), (5, .int (nI z))]) [0, 1, 2, 3, 4, 5] rfl ?_
            exact kk m _ _ _ _ _ _ _ _ ⟨LP, rc, hP⟩ hI (by omega) hM5 (by omega) (by omega)
          · skip
            refine JG_aload_n 1 rfl dL_law_838 ?_
            refine JG_aload_n 0 rfl dL_law_839 ?_
            refine JG_iload 5 rfl dL_law_840 ?_
            refine JG_iconst (v := 1) (by decide) dL_law_842 ?_
            refine JG_iadd dL_law_843 ?_
            refine JG_topeq (nI (z + 1)) (by exact nI_add z 1) ?_
            refine JG_sld (vp_in_nI (by omega) (by omega)) dL_law_844 ?_
            refine JG_topeq (nI s) (by rw [nI_toNat (by omega)]; exact e1) ?_
            refine JG_aload_n 0 rfl dL_law_845 ?_
            refine JG_iload 5 rfl dL_law_846 ?_
            refine JG_iconst (v := 2) (by decide) dL_law_848 ?_
            refine JG_iadd dL_law_849 ?_
            refine JG_topeq (nI (z + 2)) (by exact nI_add z 2) ?_
            refine JG_sld (vp_in_nI (by omega) (by omega)) dL_law_850 ?_
            refine JG_topeq (nI t) (by rw [nI_toNat (by omega)]; exact e2) ?_
            refine JG_aload_n 0 rfl dL_law_851 ?_
            refine JG_iload 5 rfl dL_law_852 ?_
            refine JG_iconst (v := 3) (by decide) dL_law_854 ?_
            refine JG_iadd dL_law_855 ?_
            refine JG_topeq (nI (z + 3)) (by exact nI_add z 3) ?_
            refine JG_sld (vp_in_nI (by omega) (by omega)) dL_law_856 ?_
            refine JG_topeq p3 (by rw [nI_toNat (by omega)]; exact e3) ?_
            refine JG_aload_n 3 rfl dL_law_857 ?_
            refine JG_callH (As := [.ref (ka S 0 0), .int (nI s), .int (nI t), .int p3, .ref (ka S 80 0)]) (rest := []) (wm cy S I2 L2 R2) [] dL_law_858 (w_onWay_3 (c_X7_onWay_n hR hI (by omega) hlg hs ht hne hx)) (by rw [List.append_nil]) lm_L_167 kw_L_onWay kiniL ks_L_onWay kdL_onWay ⟨Nat.le_of_ble_eq_true rfl, Nat.le_of_ble_eq_true rfl⟩ (by show cells + 1 ≤ 603072; omega) (by show slots + 6 ≤ 7186538; omega) (Nat.le_of_ble_eq_true rfl) (fun _ w8 r1 => ?_)
            obtain ⟨rfl, w9, hP, rfl⟩ := r1
            refine JG_eq (w' := wm cy S I2 L2 R2 ++ (w9 ++ wlo cy S G)) (st' := [.int 3]) (by rw [List.append_nil]) rfl rfl ?_
            refine JG_istore (lv' := [(0, .ref b), (1, .ref (ka S 0 0)), (2, .ref (ka S 30 0)), (3, .ref (ka S 80 0)), (4, .ref (ka S 81 0)), (5, .int (nI z)), (6, .int 3)]) (by decide) rfl dL_law_861 ?_
            refine JG_aload_n 2 rfl dL_law_863 ?_
            refine JG_aload_n 0 rfl dL_law_864 ?_
            refine JG_iload 5 rfl dL_law_865 ?_
            refine JG_iconst (v := 1) (by decide) dL_law_867 ?_
            refine JG_iadd dL_law_868 ?_
            refine JG_topeq (nI (z + 1)) (by exact nI_add z 1) ?_
            refine JG_sld (vp_in_nI (by omega) (by omega)) dL_law_869 ?_
            refine JG_topeq (nI s) (by rw [nI_toNat (by omega)]; exact e1) ?_
            refine JG_aload_n 0 rfl dL_law_870 ?_
            refine JG_iload 5 rfl dL_law_871 ?_
            refine JG_iconst (v := 2) (by decide) dL_law_873 ?_
            refine JG_iadd dL_law_874 ?_
            refine JG_topeq (nI (z + 2)) (by exact nI_add z 2) ?_
            refine JG_sld (vp_in_nI (by omega) (by omega)) dL_law_875 ?_
            refine JG_topeq (nI t) (by rw [nI_toNat (by omega)]; exact e2) ?_
            refine JG_aload_n 0 rfl dL_law_876 ?_
            refine JG_iload 5 rfl dL_law_877 ?_
            refine JG_iconst (v := 3) (by decide) dL_law_879 ?_
            refine JG_iadd dL_law_880 ?_
            refine JG_topeq (nI (z + 3)) (by exact nI_add z 3) ?_
            refine JG_sld (vp_in_nI (by omega) (by omega)) dL_law_881 ?_
            refine JG_topeq p3 (by rw [nI_toNat (by omega)]; exact e3) ?_
            refine JG_callX8 (As := [.int (nI s), .int (nI t), .int p3]) (rest := []) [] (w9 ++ wlo cy S G) dL_law_882 (c_X8_onWay_n hM hR hI (by omega) hs ht hne hw hx) rfl rfl lm_L_170 kc_yX8_onWay ki_yX8_onWay kv_yX8_onWay kd_yX8_onWay ⟨Nat.le_of_ble_eq_true rfl, Nat.le_of_ble_eq_true rfl⟩ (by show (cells + 1) + 0 ≤ 603072; omega) (by show (slots + 6) + 0 ≤ 7186538; omega) (Nat.le_of_ble_eq_true rfl) (fun _ w8 r2 => ?_)
            obtain ⟨rfl, I3, L3, rfl, hM3⟩ := r2
            refine JG_eq (w' := wm cy S I3 L3 R2 ++ (w9 ++ wlo cy S G)) (st' := [.int 0]) rfl rfl rfl ?_
            refine JG_istore (lv' := [(0, .ref b), (1, .ref (ka S 0 0)), (2, .ref (ka S 30 0)), (3, .ref (ka S 80 0)), (4, .ref (ka S 81 0)), (5, .int (nI z)), (6, .int 3), (7, .int 0)]) (by decide) rfl dL_law_885 ?_
            refine JG_aload_n 2 rfl dL_law_887 ?_
            refine JG_callX8 (As := []) (rest := []) [] (w9 ++ wlo cy S G) dL_law_888 (c_X8_thrown hM3) rfl rfl lm_L_133 kc_yX8_thrown ki_yX8_thrown kv_yX8_thrown kd_yX8_thrown ⟨Nat.le_of_ble_eq_true rfl, Nat.le_of_ble_eq_true rfl⟩ (by show ((cells + 1) + 0) + 0 ≤ 603072; omega) (by show ((slots + 6) + 0) + 0 ≤ 7186538; omega) (Nat.le_of_ble_eq_true rfl) (fun _ w8 r4 => ?_)
            obtain ⟨rfl, I5, L5, rfl, hM5⟩ := r4
            refine JG_eq (w' := wm cy S I5 L5 R2 ++ (w9 ++ wlo cy S G)) (st' := [.int 3]) rfl rfl rfl ?_
            refine JG_iload 6 rfl dL_law_891 ?_
            refine JG_icmp_eq 898 (by decide) dL_law_893 (fun c6 => ?_) (fun c6 => ?_)
            rotate_left
            · exact absurd (by decide) c6
            refine JG_iload 6 rfl dL_law_898 ?_
            refine JG_if_ne 915 (by decide) dL_law_900 (fun c7 => ?_) (fun c7 => ?_)
            rotate_left
            · exact absurd c7 (by decide)
            refine JG_goto 2268 (by decide) dL_law_915 ?_
            refine JG_sub (lv' := [(0, .ref b), (1, .ref (ka S 0 0)), (2, .ref (ka S 30 0)), (3, .ref (ka S 80 0)), (4, .ref (ka S 81 0)), (5, .int (nI z))]) [0, 1, 2, 3, 4, 5] rfl ?_
            exact kk m _ _ _ _ _ _ _ _ ⟨LP, rc, hP⟩ hI (by omega) hM5 (by omega) (by omega)
    · skip
      refine JG_aload_n 1 rfl dL_law_838 ?_
      refine JG_aload_n 0 rfl dL_law_839 ?_
      refine JG_iload 5 rfl dL_law_840 ?_
      refine JG_iconst (v := 1) (by decide) dL_law_842 ?_
      refine JG_iadd dL_law_843 ?_
      refine JG_topeq (nI (z + 1)) (by exact nI_add z 1) ?_
      refine JG_sld (vp_in_nI (by omega) (by omega)) dL_law_844 ?_
      refine JG_topeq (nI s) (by rw [nI_toNat (by omega)]; exact e1) ?_
      refine JG_aload_n 0 rfl dL_law_845 ?_
      refine JG_iload 5 rfl dL_law_846 ?_
      refine JG_iconst (v := 2) (by decide) dL_law_848 ?_
      refine JG_iadd dL_law_849 ?_
      refine JG_topeq (nI (z + 2)) (by exact nI_add z 2) ?_
      refine JG_sld (vp_in_nI (by omega) (by omega)) dL_law_850 ?_
      refine JG_topeq p2 (by rw [nI_toNat (by omega)]; exact e2) ?_
      refine JG_aload_n 0 rfl dL_law_851 ?_
      refine JG_iload 5 rfl dL_law_852 ?_
      refine JG_iconst (v := 3) (by decide) dL_law_854 ?_
      refine JG_iadd dL_law_855 ?_
      refine JG_topeq (nI (z + 3)) (by exact nI_add z 3) ?_
      refine JG_sld (vp_in_nI (by omega) (by omega)) dL_law_856 ?_
      refine JG_topeq p3 (by rw [nI_toNat (by omega)]; exact e3) ?_
      refine JG_aload_n 3 rfl dL_law_857 ?_
      refine JG_callH (As := [.ref (ka S 0 0), .int (nI s), .int p2, .int p3, .ref (ka S 80 0)]) (rest := []) (wm cy S I2 L2 R2) [] dL_law_858 (w_onWay_1 (c_X7_onWay_y hR hI (by omega) hlg hs hx)) (by rw [List.append_nil]) lm_L_167 kw_L_onWay kiniL ks_L_onWay kdL_onWay ⟨Nat.le_of_ble_eq_true rfl, Nat.le_of_ble_eq_true rfl⟩ (by show cells + 1 ≤ 603072; omega) (by show slots + 6 ≤ 7186538; omega) (Nat.le_of_ble_eq_true rfl) (fun _ w8 r1 => ?_)
      obtain ⟨rfl, w9, hP, rfl⟩ := r1
      refine JG_eq (w' := wm cy S I2 L2 R2 ++ (w9 ++ wlo cy S G)) (st' := [.int 1]) (by rw [List.append_nil]) rfl rfl ?_
      refine JG_istore (lv' := [(0, .ref b), (1, .ref (ka S 0 0)), (2, .ref (ka S 30 0)), (3, .ref (ka S 80 0)), (4, .ref (ka S 81 0)), (5, .int (nI z)), (6, .int 1)]) (by decide) rfl dL_law_861 ?_
      refine JG_aload_n 2 rfl dL_law_863 ?_
      refine JG_aload_n 0 rfl dL_law_864 ?_
      refine JG_iload 5 rfl dL_law_865 ?_
      refine JG_iconst (v := 1) (by decide) dL_law_867 ?_
      refine JG_iadd dL_law_868 ?_
      refine JG_topeq (nI (z + 1)) (by exact nI_add z 1) ?_
      refine JG_sld (vp_in_nI (by omega) (by omega)) dL_law_869 ?_
      refine JG_topeq (nI s) (by rw [nI_toNat (by omega)]; exact e1) ?_
      refine JG_aload_n 0 rfl dL_law_870 ?_
      refine JG_iload 5 rfl dL_law_871 ?_
      refine JG_iconst (v := 2) (by decide) dL_law_873 ?_
      refine JG_iadd dL_law_874 ?_
      refine JG_topeq (nI (z + 2)) (by exact nI_add z 2) ?_
      refine JG_sld (vp_in_nI (by omega) (by omega)) dL_law_875 ?_
      refine JG_topeq p2 (by rw [nI_toNat (by omega)]; exact e2) ?_
      refine JG_aload_n 0 rfl dL_law_876 ?_
      refine JG_iload 5 rfl dL_law_877 ?_
      refine JG_iconst (v := 3) (by decide) dL_law_879 ?_
      refine JG_iadd dL_law_880 ?_
      refine JG_topeq (nI (z + 3)) (by exact nI_add z 3) ?_
      refine JG_sld (vp_in_nI (by omega) (by omega)) dL_law_881 ?_
      refine JG_topeq p3 (by rw [nI_toNat (by omega)]; exact e3) ?_
      refine JG_callX8 (As := [.int (nI s), .int p2, .int p3]) (rest := []) [] (w9 ++ wlo cy S G) dL_law_882 (c_X8_onWay_y hM hR hI (by omega) hs hx) rfl rfl lm_L_170 kc_yX8_onWay ki_yX8_onWay kv_yX8_onWay kd_yX8_onWay ⟨Nat.le_of_ble_eq_true rfl, Nat.le_of_ble_eq_true rfl⟩ (by show (cells + 1) + 0 ≤ 603072; omega) (by show (slots + 6) + 0 ≤ 7186538; omega) (Nat.le_of_ble_eq_true rfl) (fun _ w8 r2 => ?_)
      obtain ⟨rfl, I3, L3, rfl, hM3⟩ := r2
      refine JG_eq (w' := wm cy S I3 L3 R2 ++ (w9 ++ wlo cy S G)) (st' := [.int 0]) rfl rfl rfl ?_
      refine JG_istore (lv' := [(0, .ref b), (1, .ref (ka S 0 0)), (2, .ref (ka S 30 0)), (3, .ref (ka S 80 0)), (4, .ref (ka S 81 0)), (5, .int (nI z)), (6, .int 1), (7, .int 0)]) (by decide) rfl dL_law_885 ?_
      refine JG_aload_n 2 rfl dL_law_887 ?_
      refine JG_callX8 (As := []) (rest := []) [] (w9 ++ wlo cy S G) dL_law_888 (c_X8_thrown hM3) rfl rfl lm_L_133 kc_yX8_thrown ki_yX8_thrown kv_yX8_thrown kd_yX8_thrown ⟨Nat.le_of_ble_eq_true rfl, Nat.le_of_ble_eq_true rfl⟩ (by show ((cells + 1) + 0) + 0 ≤ 603072; omega) (by show ((slots + 6) + 0) + 0 ≤ 7186538; omega) (Nat.le_of_ble_eq_true rfl) (fun _ w8 r4 => ?_)
      obtain ⟨rfl, I5, L5, rfl, hM5⟩ := r4
      refine JG_eq (w' := wm cy S I5 L5 R2 ++ (w9 ++ wlo cy S G)) (st' := [.int 1]) rfl rfl rfl ?_
      refine JG_iload 6 rfl dL_law_891 ?_
      refine JG_icmp_eq 898 (by decide) dL_law_893 (fun c6 => ?_) (fun c6 => ?_)
      rotate_left
      · exact absurd (by decide) c6
      refine JG_iload 6 rfl dL_law_898 ?_
      refine JG_if_ne 915 (by decide) dL_law_900 (fun c7 => ?_) (fun c7 => ?_)
      rotate_left
      · exact absurd c7 (by decide)
      refine JG_goto 2268 (by decide) dL_law_915 ?_
      refine JG_sub (lv' := [(0, .ref b), (1, .ref (ka S 0 0)), (2, .ref (ka S 30 0)), (3, .ref (ka S 80 0)), (4, .ref (ka S 81 0)), (5, .int (nI z))]) [0, 1, 2, 3, 4, 5] rfl ?_
      exact kk m _ _ _ _ _ _ _ _ ⟨LP, rc, hP⟩ hI (by omega) hM5 (by omega) (by omega)
  · skip
    refine JG_aload_n 1 rfl dL_law_838 ?_
    refine JG_aload_n 0 rfl dL_law_839 ?_
    refine JG_iload 5 rfl dL_law_840 ?_
    refine JG_iconst (v := 1) (by decide) dL_law_842 ?_
    refine JG_iadd dL_law_843 ?_
    refine JG_topeq (nI (z + 1)) (by exact nI_add z 1) ?_
    refine JG_sld (vp_in_nI (by omega) (by omega)) dL_law_844 ?_
    refine JG_topeq p1 (by rw [nI_toNat (by omega)]; exact e1) ?_
    refine JG_aload_n 0 rfl dL_law_845 ?_
    refine JG_iload 5 rfl dL_law_846 ?_
    refine JG_iconst (v := 2) (by decide) dL_law_848 ?_
    refine JG_iadd dL_law_849 ?_
    refine JG_topeq (nI (z + 2)) (by exact nI_add z 2) ?_
    refine JG_sld (vp_in_nI (by omega) (by omega)) dL_law_850 ?_
    refine JG_topeq p2 (by rw [nI_toNat (by omega)]; exact e2) ?_
    refine JG_aload_n 0 rfl dL_law_851 ?_
    refine JG_iload 5 rfl dL_law_852 ?_
    refine JG_iconst (v := 3) (by decide) dL_law_854 ?_
    refine JG_iadd dL_law_855 ?_
    refine JG_topeq (nI (z + 3)) (by exact nI_add z 3) ?_
    refine JG_sld (vp_in_nI (by omega) (by omega)) dL_law_856 ?_
    refine JG_topeq p3 (by rw [nI_toNat (by omega)]; exact e3) ?_
    refine JG_aload_n 3 rfl dL_law_857 ?_
    refine JG_callH (As := [.ref (ka S 0 0), .int p1, .int p2, .int p3, .ref (ka S 80 0)]) (rest := []) (wm cy S I2 L2 R2) [] dL_law_858 (w_onWay_1 (c_X7_onWay_x hR hI (by omega) hlg hx)) (by rw [List.append_nil]) lm_L_167 kw_L_onWay kiniL ks_L_onWay kdL_onWay ⟨Nat.le_of_ble_eq_true rfl, Nat.le_of_ble_eq_true rfl⟩ (by show cells + 1 ≤ 603072; omega) (by show slots + 6 ≤ 7186538; omega) (Nat.le_of_ble_eq_true rfl) (fun _ w8 r1 => ?_)
    obtain ⟨rfl, w9, hP, rfl⟩ := r1
    refine JG_eq (w' := wm cy S I2 L2 R2 ++ (w9 ++ wlo cy S G)) (st' := [.int 1]) (by rw [List.append_nil]) rfl rfl ?_
    refine JG_istore (lv' := [(0, .ref b), (1, .ref (ka S 0 0)), (2, .ref (ka S 30 0)), (3, .ref (ka S 80 0)), (4, .ref (ka S 81 0)), (5, .int (nI z)), (6, .int 1)]) (by decide) rfl dL_law_861 ?_
    refine JG_aload_n 2 rfl dL_law_863 ?_
    refine JG_aload_n 0 rfl dL_law_864 ?_
    refine JG_iload 5 rfl dL_law_865 ?_
    refine JG_iconst (v := 1) (by decide) dL_law_867 ?_
    refine JG_iadd dL_law_868 ?_
    refine JG_topeq (nI (z + 1)) (by exact nI_add z 1) ?_
    refine JG_sld (vp_in_nI (by omega) (by omega)) dL_law_869 ?_
    refine JG_topeq p1 (by rw [nI_toNat (by omega)]; exact e1) ?_
    refine JG_aload_n 0 rfl dL_law_870 ?_
    refine JG_iload 5 rfl dL_law_871 ?_
    refine JG_iconst (v := 2) (by decide) dL_law_873 ?_
    refine JG_iadd dL_law_874 ?_
    refine JG_topeq (nI (z + 2)) (by exact nI_add z 2) ?_
    refine JG_sld (vp_in_nI (by omega) (by omega)) dL_law_875 ?_
    refine JG_topeq p2 (by rw [nI_toNat (by omega)]; exact e2) ?_
    refine JG_aload_n 0 rfl dL_law_876 ?_
    refine JG_iload 5 rfl dL_law_877 ?_
    refine JG_iconst (v := 3) (by decide) dL_law_879 ?_
    refine JG_iadd dL_law_880 ?_
    refine JG_topeq (nI (z + 3)) (by exact nI_add z 3) ?_
    refine JG_sld (vp_in_nI (by omega) (by omega)) dL_law_881 ?_
    refine JG_topeq p3 (by rw [nI_toNat (by omega)]; exact e3) ?_
    refine JG_callX8 (As := [.int p1, .int p2, .int p3]) (rest := []) [] (w9 ++ wlo cy S G) dL_law_882 (c_X8_onWay_x hM hR hI (by omega) hx) rfl rfl lm_L_170 kc_yX8_onWay ki_yX8_onWay kv_yX8_onWay kd_yX8_onWay ⟨Nat.le_of_ble_eq_true rfl, Nat.le_of_ble_eq_true rfl⟩ (by show (cells + 1) + 0 ≤ 603072; omega) (by show (slots + 6) + 0 ≤ 7186538; omega) (Nat.le_of_ble_eq_true rfl) (fun _ w8 r2 => ?_)
    obtain ⟨rfl, I3, L3, rfl, hM3⟩ := r2
    refine JG_eq (w' := wm cy S I3 L3 R2 ++ (w9 ++ wlo cy S G)) (st' := [.int 0]) rfl rfl rfl ?_
    refine JG_istore (lv' := [(0, .ref b), (1, .ref (ka S 0 0)), (2, .ref (ka S 30 0)), (3, .ref (ka S 80 0)), (4, .ref (ka S 81 0)), (5, .int (nI z)), (6, .int 1), (7, .int 0)]) (by decide) rfl dL_law_885 ?_
    refine JG_aload_n 2 rfl dL_law_887 ?_
    refine JG_callX8 (As := []) (rest := []) [] (w9 ++ wlo cy S G) dL_law_888 (c_X8_thrown hM3) rfl rfl lm_L_133 kc_yX8_thrown ki_yX8_thrown kv_yX8_thrown kd_yX8_thrown ⟨Nat.le_of_ble_eq_true rfl, Nat.le_of_ble_eq_true rfl⟩ (by show ((cells + 1) + 0) + 0 ≤ 603072; omega) (by show ((slots + 6) + 0) + 0 ≤ 7186538; omega) (Nat.le_of_ble_eq_true rfl) (fun _ w8 r4 => ?_)
    obtain ⟨rfl, I5, L5, rfl, hM5⟩ := r4
    refine JG_eq (w' := wm cy S I5 L5 R2 ++ (w9 ++ wlo cy S G)) (st' := [.int 1]) rfl rfl rfl ?_
    refine JG_iload 6 rfl dL_law_891 ?_
    refine JG_icmp_eq 898 (by decide) dL_law_893 (fun c6 => ?_) (fun c6 => ?_)
    rotate_left
    · exact absurd (by decide) c6
    refine JG_iload 6 rfl dL_law_898 ?_
    refine JG_if_ne 915 (by decide) dL_law_900 (fun c7 => ?_) (fun c7 => ?_)
    rotate_left
    · exact absurd c7 (by decide)
    refine JG_goto 2268 (by decide) dL_law_915 ?_
    refine JG_sub (lv' := [(0, .ref b), (1, .ref (ka S 0 0)), (2, .ref (ka S 30 0)), (3, .ref (ka S 80 0)), (4, .ref (ka S 81 0)), (5, .int (nI z))]) [0, 1, 2, 3, 4, 5] rfl ?_
    exact kk m _ _ _ _ _ _ _ _ ⟨LP, rc, hP⟩ hI (by omega) hM5 (by omega) (by omega)

set_option maxRecDepth 20000 in
set_option maxHeartbeats 1000000 in
theorem lc_busyWith {cy : Nat → ClassId} {S : Nat → Nat → Nat} {I I2 : kI} {L L2 G : kL} {R R2 : kRf} {LP : List Nat} {m : Mu} {rc : Nat → Nat} {ln qu : List Nat} {lg B : Nat} {cd : Int32} {b Lx z cells slots : Nat} {xs : Nat → Int32} {p1 : Int32} (hR : Rel m I L R LP rc ln qu lg) (hI : Inv m B) (hB : B + 100000 < 2 ^ 30) (hlg : lg < 2 ^ 30) (hM : MR m cd I2 L2) (hz : z + 4 < Lx) (hLx : Lx ≤ 2560) (hcl : cells + 101 ≤ 603072) (hsl : slots + 1307 ≤ 7186538) (e1 : xs (z + 1) = p1) (kk : ∀ (m' : Mu) (B' : Nat) (w9 : va_W) (I2 : kI) (L2 : kL) (cd : Int32) (G : kL) (c' s' : Nat), (∃ LP rc, RelX cy S LP rc m' w9) → Inv m' B' → B' ≤ B + 90000 → MR m' cd I2 L2 → c' ≤ cells + 100 → s' ≤ slots + 1300 → JG RL cL_law 9 cy room_1 (ExL b Lx xs) FinL 2268 [(0, .ref b), (1, .ref (ka S 0 0)), (2, .ref (ka S 30 0)), (3, .ref (ka S 80 0)), (4, .ref (ka S 81 0)), (5, .int (nI z))] [] (wm cy S I2 L2 R2 ++ (w9 ++ wlo cy S G)) c' s') : JG RL cL_law 9 cy room_1 (ExL b Lx xs) FinL 646 [(0, .ref b), (1, .ref (ka S 0 0)), (2, .ref (ka S 30 0)), (3, .ref (ka S 80 0)), (4, .ref (ka S 81 0)), (5, .int (nI z))] [] (wm cy S I2 L2 R2 ++ (wc cy S I L R LP ++ wlo cy S G)) cells slots := by
  have hl31 : lg < 2 ^ 31 := by omega
  rcases lt_or (mS m) p1 with ⟨s, hs, rfl⟩ | hx
  · skip
    rcases opt_split (mHold m (nI s)) with hm | ⟨c, hm⟩
    · skip
      refine JG_aload_n 1 rfl dL_law_646 ?_
      refine JG_aload_n 0 rfl dL_law_647 ?_
      refine JG_iload 5 rfl dL_law_648 ?_
      refine JG_iconst (v := 1) (by decide) dL_law_650 ?_
      refine JG_iadd dL_law_651 ?_
      refine JG_topeq (nI (z + 1)) (by exact nI_add z 1) ?_
      refine JG_sld (vp_in_nI (by omega) (by omega)) dL_law_652 ?_
      refine JG_topeq (nI s) (by rw [nI_toNat (by omega)]; exact e1) ?_
      refine JG_aload_n 3 rfl dL_law_653 ?_
      refine JG_callH (As := [.ref (ka S 0 0), .int (nI s), .ref (ka S 80 0)]) (rest := []) (wm cy S I2 L2 R2) [] dL_law_654 (w_busyWith_2 (c_X7_busyWith_n hR hI (by omega) hlg hs hm)) (by rw [List.append_nil]) lm_L_158 kw_L_busyWith kiniL ks_L_busyWith kdL_busyWith ⟨Nat.le_of_ble_eq_true rfl, Nat.le_of_ble_eq_true rfl⟩ (by show cells + 1 ≤ 603072; omega) (by show slots + 6 ≤ 7186538; omega) (Nat.le_of_ble_eq_true rfl) (fun _ w8 r1 => ?_)
      obtain ⟨rfl, w9, hP, rfl⟩ := r1
      refine JG_eq (w' := wm cy S I2 L2 R2 ++ (w9 ++ wlo cy S G)) (st' := [.int 2]) (by rw [List.append_nil]) rfl rfl ?_
      refine JG_istore (lv' := [(0, .ref b), (1, .ref (ka S 0 0)), (2, .ref (ka S 30 0)), (3, .ref (ka S 80 0)), (4, .ref (ka S 81 0)), (5, .int (nI z)), (6, .int 2)]) (by decide) rfl dL_law_657 ?_
      refine JG_aload_n 2 rfl dL_law_659 ?_
      refine JG_aload_n 0 rfl dL_law_660 ?_
      refine JG_iload 5 rfl dL_law_661 ?_
      refine JG_iconst (v := 1) (by decide) dL_law_663 ?_
      refine JG_iadd dL_law_664 ?_
      refine JG_topeq (nI (z + 1)) (by exact nI_add z 1) ?_
      refine JG_sld (vp_in_nI (by omega) (by omega)) dL_law_665 ?_
      refine JG_topeq (nI s) (by rw [nI_toNat (by omega)]; exact e1) ?_
      refine JG_callX8 (As := [.int (nI s)]) (rest := []) [] (w9 ++ wlo cy S G) dL_law_666 (c_X8_busyWith_n hM hR hI (by omega) hs hm) rfl rfl lm_L_160 kc_yX8_busyWith ki_yX8_busyWith kv_yX8_busyWith kd_yX8_busyWith ⟨Nat.le_of_ble_eq_true rfl, Nat.le_of_ble_eq_true rfl⟩ (by show (cells + 1) + 0 ≤ 603072; omega) (by show (slots + 6) + 0 ≤ 7186538; omega) (Nat.le_of_ble_eq_true rfl) (fun _ w8 r2 => ?_)
      obtain ⟨rfl, I3, L3, rfl, hM3⟩ := r2
      refine JG_eq (w' := wm cy S I3 L3 R2 ++ (w9 ++ wlo cy S G)) (st' := [.int 0]) rfl rfl rfl ?_
      refine JG_istore (lv' := [(0, .ref b), (1, .ref (ka S 0 0)), (2, .ref (ka S 30 0)), (3, .ref (ka S 80 0)), (4, .ref (ka S 81 0)), (5, .int (nI z)), (6, .int 2), (7, .int 0)]) (by decide) rfl dL_law_669 ?_
      refine JG_aload_n 2 rfl dL_law_671 ?_
      refine JG_callX8 (As := []) (rest := []) [] (w9 ++ wlo cy S G) dL_law_672 (c_X8_thrown hM3) rfl rfl lm_L_133 kc_yX8_thrown ki_yX8_thrown kv_yX8_thrown kd_yX8_thrown ⟨Nat.le_of_ble_eq_true rfl, Nat.le_of_ble_eq_true rfl⟩ (by show ((cells + 1) + 0) + 0 ≤ 603072; omega) (by show ((slots + 6) + 0) + 0 ≤ 7186538; omega) (Nat.le_of_ble_eq_true rfl) (fun _ w8 r4 => ?_)
      obtain ⟨rfl, I5, L5, rfl, hM5⟩ := r4
      refine JG_eq (w' := wm cy S I5 L5 R2 ++ (w9 ++ wlo cy S G)) (st' := [.int 2]) rfl rfl rfl ?_
      refine JG_iload 6 rfl dL_law_675 ?_
      refine JG_icmp_eq 682 (by decide) dL_law_677 (fun c6 => ?_) (fun c6 => ?_)
      rotate_left
      · exact absurd (by decide) c6
      refine JG_iload 6 rfl dL_law_682 ?_
      refine JG_if_ne 699 (by decide) dL_law_684 (fun c7 => ?_) (fun c7 => ?_)
      rotate_left
      · exact absurd c7 (by decide)
      refine JG_goto 2268 (by decide) dL_law_699 ?_
      refine JG_sub (lv' := [(0, .ref b), (1, .ref (ka S 0 0)), (2, .ref (ka S 30 0)), (3, .ref (ka S 80 0)), (4, .ref (ka S 81 0)), (5, .int (nI z))]) [0, 1, 2, 3, 4, 5] rfl ?_
      exact kk m _ _ _ _ _ _ _ _ ⟨LP, rc, hP⟩ hI (by omega) hM5 (by omega) (by omega)
    · skip
      refine JG_aload_n 1 rfl dL_law_646 ?_
      refine JG_aload_n 0 rfl dL_law_647 ?_
      refine JG_iload 5 rfl dL_law_648 ?_
      refine JG_iconst (v := 1) (by decide) dL_law_650 ?_
      refine JG_iadd dL_law_651 ?_
      refine JG_topeq (nI (z + 1)) (by exact nI_add z 1) ?_
      refine JG_sld (vp_in_nI (by omega) (by omega)) dL_law_652 ?_
      refine JG_topeq (nI s) (by rw [nI_toNat (by omega)]; exact e1) ?_
      refine JG_aload_n 3 rfl dL_law_653 ?_
      refine JG_callH (As := [.ref (ka S 0 0), .int (nI s), .ref (ka S 80 0)]) (rest := []) (wm cy S I2 L2 R2) [] dL_law_654 (w_busyWith_s  (c_X7_busyWith_s hR hI (by omega) hlg hs hm)) (by rw [List.append_nil]) lm_L_158 kw_L_busyWith kiniL ks_L_busyWith kdL_busyWith ⟨Nat.le_of_ble_eq_true rfl, Nat.le_of_ble_eq_true rfl⟩ (by show cells + 0 ≤ 603072; omega) (by show slots + 0 ≤ 7186538; omega) (Nat.le_of_ble_eq_true rfl) (fun _ w8 r1 => ?_)
      obtain ⟨rfl, w9, hP, rfl⟩ := r1
      refine JG_eq (w' := wm cy S I2 L2 R2 ++ (w9 ++ wlo cy S (ku G 80 0 0 (nI c).toInt64))) (st' := [.int 0]) (by rw [List.append_nil]) rfl rfl ?_
      refine JG_istore (lv' := [(0, .ref b), (1, .ref (ka S 0 0)), (2, .ref (ka S 30 0)), (3, .ref (ka S 80 0)), (4, .ref (ka S 81 0)), (5, .int (nI z)), (6, .int 0)]) (by decide) rfl dL_law_657 ?_
      refine JG_aload_n 2 rfl dL_law_659 ?_
      refine JG_aload_n 0 rfl dL_law_660 ?_
      refine JG_iload 5 rfl dL_law_661 ?_
      refine JG_iconst (v := 1) (by decide) dL_law_663 ?_
      refine JG_iadd dL_law_664 ?_
      refine JG_topeq (nI (z + 1)) (by exact nI_add z 1) ?_
      refine JG_sld (vp_in_nI (by omega) (by omega)) dL_law_665 ?_
      refine JG_topeq (nI s) (by rw [nI_toNat (by omega)]; exact e1) ?_
      refine JG_callX8 (As := [.int (nI s)]) (rest := []) [] (w9 ++ wlo cy S (ku G 80 0 0 (nI c).toInt64)) dL_law_666 (c_X8_busyWith_s hM hR hI (by omega) hs hm) rfl rfl lm_L_160 kc_yX8_busyWith ki_yX8_busyWith kv_yX8_busyWith kd_yX8_busyWith ⟨Nat.le_of_ble_eq_true rfl, Nat.le_of_ble_eq_true rfl⟩ (by show (cells + 0) + 0 ≤ 603072; omega) (by show (slots + 0) + 0 ≤ 7186538; omega) (Nat.le_of_ble_eq_true rfl) (fun _ w8 r2 => ?_)
      obtain ⟨rfl, I3, L3, rfl, hM3⟩ := r2
      refine JG_eq (w' := wm cy S I3 L3 R2 ++ (w9 ++ wlo cy S (ku G 80 0 0 (nI c).toInt64))) (st' := [.int (nI c)]) rfl rfl rfl ?_
      refine JG_istore (lv' := [(0, .ref b), (1, .ref (ka S 0 0)), (2, .ref (ka S 30 0)), (3, .ref (ka S 80 0)), (4, .ref (ka S 81 0)), (5, .int (nI z)), (6, .int 0), (7, .int (nI c))]) (by decide) rfl dL_law_669 ?_
      refine JG_aload_n 2 rfl dL_law_671 ?_
      refine JG_callX8 (As := []) (rest := []) [] (w9 ++ wlo cy S (ku G 80 0 0 (nI c).toInt64)) dL_law_672 (c_X8_thrown hM3) rfl rfl lm_L_133 kc_yX8_thrown ki_yX8_thrown kv_yX8_thrown kd_yX8_thrown ⟨Nat.le_of_ble_eq_true rfl, Nat.le_of_ble_eq_true rfl⟩ (by show ((cells + 0) + 0) + 0 ≤ 603072; omega) (by show ((slots + 0) + 0) + 0 ≤ 7186538; omega) (Nat.le_of_ble_eq_true rfl) (fun _ w8 r4 => ?_)
      obtain ⟨rfl, I5, L5, rfl, hM5⟩ := r4
      refine JG_eq (w' := wm cy S I5 L5 R2 ++ (w9 ++ wlo cy S (ku G 80 0 0 (nI c).toInt64))) (st' := [.int 0]) rfl rfl rfl ?_
      refine JG_iload 6 rfl dL_law_675 ?_
      refine JG_icmp_eq 682 (by decide) dL_law_677 (fun c6 => ?_) (fun c6 => ?_)
      rotate_left
      · exact absurd (by decide) c6
      refine JG_iload 6 rfl dL_law_682 ?_
      refine JG_if_ne 699 (by decide) dL_law_684 (fun c7 => ?_) (fun c7 => ?_)
      · exact absurd (by decide) c7
      refine JG_aload_n 3 rfl dL_law_687 ?_
      refine JG_iconst (v := 0) (by decide) dL_law_688 ?_
      refine JG_eq (w' := (wm cy S I5 L5 R2 ++ w9) ++ wlo cy S (ku G 80 0 0 (nI c).toInt64)) (List.append_assoc _ _ _).symm rfl rfl ?_
      refine JG_laldO dL_law_689 ?_
      refine JG_eq (w' := wm cy S I5 L5 R2 ++ (w9 ++ wlo cy S (ku G 80 0 0 (nI c).toInt64))) (st' := [.long (nI c).toInt64]) (List.append_assoc _ _ _) rfl (by rw [ku_eq]) ?_
      refine JG_iload 7 rfl dL_law_690 ?_
      refine JG_i2l dL_law_692 ?_
      refine JG_lcmp (rfl) dL_law_693 ?_
      refine JG_if_eq 699 (by decide) dL_law_694 (fun c8 => ?_) (fun c8 => ?_)
      rotate_left
      · exact absurd (by decide) c8
      refine JG_goto 2268 (by decide) dL_law_699 ?_
      refine JG_sub (lv' := [(0, .ref b), (1, .ref (ka S 0 0)), (2, .ref (ka S 30 0)), (3, .ref (ka S 80 0)), (4, .ref (ka S 81 0)), (5, .int (nI z))]) [0, 1, 2, 3, 4, 5] rfl ?_
      exact kk m _ _ _ _ _ _ _ _ ⟨LP, rc, hP⟩ hI (by omega) hM5 (by omega) (by omega)
  · skip
    refine JG_aload_n 1 rfl dL_law_646 ?_
    refine JG_aload_n 0 rfl dL_law_647 ?_
    refine JG_iload 5 rfl dL_law_648 ?_
    refine JG_iconst (v := 1) (by decide) dL_law_650 ?_
    refine JG_iadd dL_law_651 ?_
    refine JG_topeq (nI (z + 1)) (by exact nI_add z 1) ?_
    refine JG_sld (vp_in_nI (by omega) (by omega)) dL_law_652 ?_
    refine JG_topeq p1 (by rw [nI_toNat (by omega)]; exact e1) ?_
    refine JG_aload_n 3 rfl dL_law_653 ?_
    refine JG_callH (As := [.ref (ka S 0 0), .int p1, .ref (ka S 80 0)]) (rest := []) (wm cy S I2 L2 R2) [] dL_law_654 (w_busyWith_1 (c_X7_busyWith_x hR hI (by omega) hlg hx)) (by rw [List.append_nil]) lm_L_158 kw_L_busyWith kiniL ks_L_busyWith kdL_busyWith ⟨Nat.le_of_ble_eq_true rfl, Nat.le_of_ble_eq_true rfl⟩ (by show cells + 1 ≤ 603072; omega) (by show slots + 6 ≤ 7186538; omega) (Nat.le_of_ble_eq_true rfl) (fun _ w8 r1 => ?_)
    obtain ⟨rfl, w9, hP, rfl⟩ := r1
    refine JG_eq (w' := wm cy S I2 L2 R2 ++ (w9 ++ wlo cy S G)) (st' := [.int 1]) (by rw [List.append_nil]) rfl rfl ?_
    refine JG_istore (lv' := [(0, .ref b), (1, .ref (ka S 0 0)), (2, .ref (ka S 30 0)), (3, .ref (ka S 80 0)), (4, .ref (ka S 81 0)), (5, .int (nI z)), (6, .int 1)]) (by decide) rfl dL_law_657 ?_
    refine JG_aload_n 2 rfl dL_law_659 ?_
    refine JG_aload_n 0 rfl dL_law_660 ?_
    refine JG_iload 5 rfl dL_law_661 ?_
    refine JG_iconst (v := 1) (by decide) dL_law_663 ?_
    refine JG_iadd dL_law_664 ?_
    refine JG_topeq (nI (z + 1)) (by exact nI_add z 1) ?_
    refine JG_sld (vp_in_nI (by omega) (by omega)) dL_law_665 ?_
    refine JG_topeq p1 (by rw [nI_toNat (by omega)]; exact e1) ?_
    refine JG_callX8 (As := [.int p1]) (rest := []) [] (w9 ++ wlo cy S G) dL_law_666 (c_X8_busyWith_x hM hR hI (by omega) hx) rfl rfl lm_L_160 kc_yX8_busyWith ki_yX8_busyWith kv_yX8_busyWith kd_yX8_busyWith ⟨Nat.le_of_ble_eq_true rfl, Nat.le_of_ble_eq_true rfl⟩ (by show (cells + 1) + 0 ≤ 603072; omega) (by show (slots + 6) + 0 ≤ 7186538; omega) (Nat.le_of_ble_eq_true rfl) (fun _ w8 r2 => ?_)
    obtain ⟨rfl, I3, L3, rfl, hM3⟩ := r2
    refine JG_eq (w' := wm cy S I3 L3 R2 ++ (w9 ++ wlo cy S G)) (st' := [.int 0]) rfl rfl rfl ?_
    refine JG_istore (lv' := [(0, .ref b), (1, .ref (ka S 0 0)), (2, .ref (ka S 30 0)), (3, .ref (ka S 80 0)), (4, .ref (ka S 81 0)), (5, .int (nI z)), (6, .int 1), (7, .int 0)]) (by decide) rfl dL_law_669 ?_
    refine JG_aload_n 2 rfl dL_law_671 ?_
    refine JG_callX8 (As := []) (rest := []) [] (w9 ++ wlo cy S G) dL_law_672 (c_X8_thrown hM3) rfl rfl lm_L_133 kc_yX8_thrown ki_yX8_thrown kv_yX8_thrown kd_yX8_thrown ⟨Nat.le_of_ble_eq_true rfl, Nat.le_of_ble_eq_true rfl⟩ (by show ((cells + 1) + 0) + 0 ≤ 603072; omega) (by show ((slots + 6) + 0) + 0 ≤ 7186538; omega) (Nat.le_of_ble_eq_true rfl) (fun _ w8 r4 => ?_)
    obtain ⟨rfl, I5, L5, rfl, hM5⟩ := r4
    refine JG_eq (w' := wm cy S I5 L5 R2 ++ (w9 ++ wlo cy S G)) (st' := [.int 1]) rfl rfl rfl ?_
    refine JG_iload 6 rfl dL_law_675 ?_
    refine JG_icmp_eq 682 (by decide) dL_law_677 (fun c6 => ?_) (fun c6 => ?_)
    rotate_left
    · exact absurd (by decide) c6
    refine JG_iload 6 rfl dL_law_682 ?_
    refine JG_if_ne 699 (by decide) dL_law_684 (fun c7 => ?_) (fun c7 => ?_)
    rotate_left
    · exact absurd c7 (by decide)
    refine JG_goto 2268 (by decide) dL_law_699 ?_
    refine JG_sub (lv' := [(0, .ref b), (1, .ref (ka S 0 0)), (2, .ref (ka S 30 0)), (3, .ref (ka S 80 0)), (4, .ref (ka S 81 0)), (5, .int (nI z))]) [0, 1, 2, 3, 4, 5] rfl ?_
    exact kk m _ _ _ _ _ _ _ _ ⟨LP, rc, hP⟩ hI (by omega) hM5 (by omega) (by omega)

set_option maxRecDepth 20000 in
set_option maxHeartbeats 1000000 in
theorem lc_speakerOn {cy : Nat → ClassId} {S : Nat → Nat → Nat} {I I2 : kI} {L L2 G : kL} {R R2 : kRf} {LP : List Nat} {m : Mu} {rc : Nat → Nat} {ln qu : List Nat} {lg B : Nat} {cd : Int32} {b Lx z cells slots : Nat} {xs : Nat → Int32} {p1 : Int32} (hR : Rel m I L R LP rc ln qu lg) (hI : Inv m B) (hB : B + 100000 < 2 ^ 30) (hlg : lg < 2 ^ 30) (hM : MR m cd I2 L2) (hz : z + 4 < Lx) (hLx : Lx ≤ 2560) (hcl : cells + 101 ≤ 603072) (hsl : slots + 1307 ≤ 7186538) (e1 : xs (z + 1) = p1) (kk : ∀ (m' : Mu) (B' : Nat) (w9 : va_W) (I2 : kI) (L2 : kL) (cd : Int32) (G : kL) (c' s' : Nat), (∃ LP rc, RelX cy S LP rc m' w9) → Inv m' B' → B' ≤ B + 90000 → MR m' cd I2 L2 → c' ≤ cells + 100 → s' ≤ slots + 1300 → JG RL cL_law 9 cy room_1 (ExL b Lx xs) FinL 2268 [(0, .ref b), (1, .ref (ka S 0 0)), (2, .ref (ka S 30 0)), (3, .ref (ka S 80 0)), (4, .ref (ka S 81 0)), (5, .int (nI z))] [] (wm cy S I2 L2 R2 ++ (w9 ++ wlo cy S G)) c' s') : JG RL cL_law 9 cy room_1 (ExL b Lx xs) FinL 1418 [(0, .ref b), (1, .ref (ka S 0 0)), (2, .ref (ka S 30 0)), (3, .ref (ka S 80 0)), (4, .ref (ka S 81 0)), (5, .int (nI z))] [] (wm cy S I2 L2 R2 ++ (wc cy S I L R LP ++ wlo cy S G)) cells slots := by
  have hl31 : lg < 2 ^ 31 := by omega
  rcases lt_or (3) p1 with ⟨h, hh, rfl⟩ | hx
  · skip
    rcases opt_split (mOn m h) with hm | ⟨c, hm⟩
    · skip
      refine JG_aload_n 1 rfl dL_law_1418 ?_
      refine JG_aload_n 0 rfl dL_law_1419 ?_
      refine JG_iload 5 rfl dL_law_1420 ?_
      refine JG_iconst (v := 1) (by decide) dL_law_1422 ?_
      refine JG_iadd dL_law_1423 ?_
      refine JG_topeq (nI (z + 1)) (by exact nI_add z 1) ?_
      refine JG_sld (vp_in_nI (by omega) (by omega)) dL_law_1424 ?_
      refine JG_topeq (nI h) (by rw [nI_toNat (by omega)]; exact e1) ?_
      refine JG_aload_n 3 rfl dL_law_1425 ?_
      refine JG_callH (As := [.ref (ka S 0 0), .int (nI h), .ref (ka S 80 0)]) (rest := []) (wm cy S I2 L2 R2) [] dL_law_1426 (w_speakerOn_2 (c_X7_speakerOn_n hR hI (by omega) hlg hh hm)) (by rw [List.append_nil]) lm_L_197 kw_L_speakerOn kiniL ks_L_speakerOn kdL_speakerOn ⟨Nat.le_of_ble_eq_true rfl, Nat.le_of_ble_eq_true rfl⟩ (by show cells + 1 ≤ 603072; omega) (by show slots + 6 ≤ 7186538; omega) (Nat.le_of_ble_eq_true rfl) (fun _ w8 r1 => ?_)
      obtain ⟨rfl, w9, hP, rfl⟩ := r1
      refine JG_eq (w' := wm cy S I2 L2 R2 ++ (w9 ++ wlo cy S G)) (st' := [.int 2]) (by rw [List.append_nil]) rfl rfl ?_
      refine JG_istore (lv' := [(0, .ref b), (1, .ref (ka S 0 0)), (2, .ref (ka S 30 0)), (3, .ref (ka S 80 0)), (4, .ref (ka S 81 0)), (5, .int (nI z)), (6, .int 2)]) (by decide) rfl dL_law_1429 ?_
      refine JG_aload_n 2 rfl dL_law_1431 ?_
      refine JG_aload_n 0 rfl dL_law_1432 ?_
      refine JG_iload 5 rfl dL_law_1433 ?_
      refine JG_iconst (v := 1) (by decide) dL_law_1435 ?_
      refine JG_iadd dL_law_1436 ?_
      refine JG_topeq (nI (z + 1)) (by exact nI_add z 1) ?_
      refine JG_sld (vp_in_nI (by omega) (by omega)) dL_law_1437 ?_
      refine JG_topeq (nI h) (by rw [nI_toNat (by omega)]; exact e1) ?_
      refine JG_callX8 (As := [.int (nI h)]) (rest := []) [] (w9 ++ wlo cy S G) dL_law_1438 (c_X8_speakerOn_n hM hR hI (by omega) hh hm) rfl rfl lm_L_199 kc_yX8_speakerOn ki_yX8_speakerOn kv_yX8_speakerOn kd_yX8_speakerOn ⟨Nat.le_of_ble_eq_true rfl, Nat.le_of_ble_eq_true rfl⟩ (by show (cells + 1) + 0 ≤ 603072; omega) (by show (slots + 6) + 0 ≤ 7186538; omega) (Nat.le_of_ble_eq_true rfl) (fun _ w8 r2 => ?_)
      obtain ⟨rfl, I3, L3, rfl, hM3⟩ := r2
      refine JG_eq (w' := wm cy S I3 L3 R2 ++ (w9 ++ wlo cy S G)) (st' := [.int 0]) rfl rfl rfl ?_
      refine JG_istore (lv' := [(0, .ref b), (1, .ref (ka S 0 0)), (2, .ref (ka S 30 0)), (3, .ref (ka S 80 0)), (4, .ref (ka S 81 0)), (5, .int (nI z)), (6, .int 2), (7, .int 0)]) (by decide) rfl dL_law_1441 ?_
      refine JG_aload_n 2 rfl dL_law_1443 ?_
      refine JG_callX8 (As := []) (rest := []) [] (w9 ++ wlo cy S G) dL_law_1444 (c_X8_thrown hM3) rfl rfl lm_L_133 kc_yX8_thrown ki_yX8_thrown kv_yX8_thrown kd_yX8_thrown ⟨Nat.le_of_ble_eq_true rfl, Nat.le_of_ble_eq_true rfl⟩ (by show ((cells + 1) + 0) + 0 ≤ 603072; omega) (by show ((slots + 6) + 0) + 0 ≤ 7186538; omega) (Nat.le_of_ble_eq_true rfl) (fun _ w8 r4 => ?_)
      obtain ⟨rfl, I5, L5, rfl, hM5⟩ := r4
      refine JG_eq (w' := wm cy S I5 L5 R2 ++ (w9 ++ wlo cy S G)) (st' := [.int 2]) rfl rfl rfl ?_
      refine JG_iload 6 rfl dL_law_1447 ?_
      refine JG_icmp_eq 1454 (by decide) dL_law_1449 (fun c6 => ?_) (fun c6 => ?_)
      rotate_left
      · exact absurd (by decide) c6
      refine JG_iload 6 rfl dL_law_1454 ?_
      refine JG_if_ne 1471 (by decide) dL_law_1456 (fun c7 => ?_) (fun c7 => ?_)
      rotate_left
      · exact absurd c7 (by decide)
      refine JG_goto 2268 (by decide) dL_law_1471 ?_
      refine JG_sub (lv' := [(0, .ref b), (1, .ref (ka S 0 0)), (2, .ref (ka S 30 0)), (3, .ref (ka S 80 0)), (4, .ref (ka S 81 0)), (5, .int (nI z))]) [0, 1, 2, 3, 4, 5] rfl ?_
      exact kk m _ _ _ _ _ _ _ _ ⟨LP, rc, hP⟩ hI (by omega) hM5 (by omega) (by omega)
    · skip
      refine JG_aload_n 1 rfl dL_law_1418 ?_
      refine JG_aload_n 0 rfl dL_law_1419 ?_
      refine JG_iload 5 rfl dL_law_1420 ?_
      refine JG_iconst (v := 1) (by decide) dL_law_1422 ?_
      refine JG_iadd dL_law_1423 ?_
      refine JG_topeq (nI (z + 1)) (by exact nI_add z 1) ?_
      refine JG_sld (vp_in_nI (by omega) (by omega)) dL_law_1424 ?_
      refine JG_topeq (nI h) (by rw [nI_toNat (by omega)]; exact e1) ?_
      refine JG_aload_n 3 rfl dL_law_1425 ?_
      refine JG_callH (As := [.ref (ka S 0 0), .int (nI h), .ref (ka S 80 0)]) (rest := []) (wm cy S I2 L2 R2) [] dL_law_1426 (w_speakerOn_s  (c_X7_speakerOn_s hR hI (by omega) hlg hh hm)) (by rw [List.append_nil]) lm_L_197 kw_L_speakerOn kiniL ks_L_speakerOn kdL_speakerOn ⟨Nat.le_of_ble_eq_true rfl, Nat.le_of_ble_eq_true rfl⟩ (by show cells + 0 ≤ 603072; omega) (by show slots + 0 ≤ 7186538; omega) (Nat.le_of_ble_eq_true rfl) (fun _ w8 r1 => ?_)
      obtain ⟨rfl, w9, hP, rfl⟩ := r1
      refine JG_eq (w' := wm cy S I2 L2 R2 ++ (w9 ++ wlo cy S (ku G 80 0 0 (nI c).toInt64))) (st' := [.int 0]) (by rw [List.append_nil]) rfl rfl ?_
      refine JG_istore (lv' := [(0, .ref b), (1, .ref (ka S 0 0)), (2, .ref (ka S 30 0)), (3, .ref (ka S 80 0)), (4, .ref (ka S 81 0)), (5, .int (nI z)), (6, .int 0)]) (by decide) rfl dL_law_1429 ?_
      refine JG_aload_n 2 rfl dL_law_1431 ?_
      refine JG_aload_n 0 rfl dL_law_1432 ?_
      refine JG_iload 5 rfl dL_law_1433 ?_
      refine JG_iconst (v := 1) (by decide) dL_law_1435 ?_
      refine JG_iadd dL_law_1436 ?_
      refine JG_topeq (nI (z + 1)) (by exact nI_add z 1) ?_
      refine JG_sld (vp_in_nI (by omega) (by omega)) dL_law_1437 ?_
      refine JG_topeq (nI h) (by rw [nI_toNat (by omega)]; exact e1) ?_
      refine JG_callX8 (As := [.int (nI h)]) (rest := []) [] (w9 ++ wlo cy S (ku G 80 0 0 (nI c).toInt64)) dL_law_1438 (c_X8_speakerOn_s hM hR hI (by omega) hh hm) rfl rfl lm_L_199 kc_yX8_speakerOn ki_yX8_speakerOn kv_yX8_speakerOn kd_yX8_speakerOn ⟨Nat.le_of_ble_eq_true rfl, Nat.le_of_ble_eq_true rfl⟩ (by show (cells + 0) + 0 ≤ 603072; omega) (by show (slots + 0) + 0 ≤ 7186538; omega) (Nat.le_of_ble_eq_true rfl) (fun _ w8 r2 => ?_)
      obtain ⟨rfl, I3, L3, rfl, hM3⟩ := r2
      refine JG_eq (w' := wm cy S I3 L3 R2 ++ (w9 ++ wlo cy S (ku G 80 0 0 (nI c).toInt64))) (st' := [.int (nI c)]) rfl rfl rfl ?_
      refine JG_istore (lv' := [(0, .ref b), (1, .ref (ka S 0 0)), (2, .ref (ka S 30 0)), (3, .ref (ka S 80 0)), (4, .ref (ka S 81 0)), (5, .int (nI z)), (6, .int 0), (7, .int (nI c))]) (by decide) rfl dL_law_1441 ?_
      refine JG_aload_n 2 rfl dL_law_1443 ?_
      refine JG_callX8 (As := []) (rest := []) [] (w9 ++ wlo cy S (ku G 80 0 0 (nI c).toInt64)) dL_law_1444 (c_X8_thrown hM3) rfl rfl lm_L_133 kc_yX8_thrown ki_yX8_thrown kv_yX8_thrown kd_yX8_thrown ⟨Nat.le_of_ble_eq_true rfl, Nat.le_of_ble_eq_true rfl⟩ (by show ((cells + 0) + 0) + 0 ≤ 603072; omega) (by show ((slots + 0) + 0) + 0 ≤ 7186538; omega) (Nat.le_of_ble_eq_true rfl) (fun _ w8 r4 => ?_)
      obtain ⟨rfl, I5, L5, rfl, hM5⟩ := r4
      refine JG_eq (w' := wm cy S I5 L5 R2 ++ (w9 ++ wlo cy S (ku G 80 0 0 (nI c).toInt64))) (st' := [.int 0]) rfl rfl rfl ?_
      refine JG_iload 6 rfl dL_law_1447 ?_
      refine JG_icmp_eq 1454 (by decide) dL_law_1449 (fun c6 => ?_) (fun c6 => ?_)
      rotate_left
      · exact absurd (by decide) c6
      refine JG_iload 6 rfl dL_law_1454 ?_
      refine JG_if_ne 1471 (by decide) dL_law_1456 (fun c7 => ?_) (fun c7 => ?_)
      · exact absurd (by decide) c7
      refine JG_aload_n 3 rfl dL_law_1459 ?_
      refine JG_iconst (v := 0) (by decide) dL_law_1460 ?_
      refine JG_eq (w' := (wm cy S I5 L5 R2 ++ w9) ++ wlo cy S (ku G 80 0 0 (nI c).toInt64)) (List.append_assoc _ _ _).symm rfl rfl ?_
      refine JG_laldO dL_law_1461 ?_
      refine JG_eq (w' := wm cy S I5 L5 R2 ++ (w9 ++ wlo cy S (ku G 80 0 0 (nI c).toInt64))) (st' := [.long (nI c).toInt64]) (List.append_assoc _ _ _) rfl (by rw [ku_eq]) ?_
      refine JG_iload 7 rfl dL_law_1462 ?_
      refine JG_i2l dL_law_1464 ?_
      refine JG_lcmp (rfl) dL_law_1465 ?_
      refine JG_if_eq 1471 (by decide) dL_law_1466 (fun c8 => ?_) (fun c8 => ?_)
      rotate_left
      · exact absurd (by decide) c8
      refine JG_goto 2268 (by decide) dL_law_1471 ?_
      refine JG_sub (lv' := [(0, .ref b), (1, .ref (ka S 0 0)), (2, .ref (ka S 30 0)), (3, .ref (ka S 80 0)), (4, .ref (ka S 81 0)), (5, .int (nI z))]) [0, 1, 2, 3, 4, 5] rfl ?_
      exact kk m _ _ _ _ _ _ _ _ ⟨LP, rc, hP⟩ hI (by omega) hM5 (by omega) (by omega)
  · skip
    refine JG_aload_n 1 rfl dL_law_1418 ?_
    refine JG_aload_n 0 rfl dL_law_1419 ?_
    refine JG_iload 5 rfl dL_law_1420 ?_
    refine JG_iconst (v := 1) (by decide) dL_law_1422 ?_
    refine JG_iadd dL_law_1423 ?_
    refine JG_topeq (nI (z + 1)) (by exact nI_add z 1) ?_
    refine JG_sld (vp_in_nI (by omega) (by omega)) dL_law_1424 ?_
    refine JG_topeq p1 (by rw [nI_toNat (by omega)]; exact e1) ?_
    refine JG_aload_n 3 rfl dL_law_1425 ?_
    refine JG_callH (As := [.ref (ka S 0 0), .int p1, .ref (ka S 80 0)]) (rest := []) (wm cy S I2 L2 R2) [] dL_law_1426 (w_speakerOn_1 (c_X7_speakerOn_x hR hI (by omega) hlg hx)) (by rw [List.append_nil]) lm_L_197 kw_L_speakerOn kiniL ks_L_speakerOn kdL_speakerOn ⟨Nat.le_of_ble_eq_true rfl, Nat.le_of_ble_eq_true rfl⟩ (by show cells + 1 ≤ 603072; omega) (by show slots + 6 ≤ 7186538; omega) (Nat.le_of_ble_eq_true rfl) (fun _ w8 r1 => ?_)
    obtain ⟨rfl, w9, hP, rfl⟩ := r1
    refine JG_eq (w' := wm cy S I2 L2 R2 ++ (w9 ++ wlo cy S G)) (st' := [.int 1]) (by rw [List.append_nil]) rfl rfl ?_
    refine JG_istore (lv' := [(0, .ref b), (1, .ref (ka S 0 0)), (2, .ref (ka S 30 0)), (3, .ref (ka S 80 0)), (4, .ref (ka S 81 0)), (5, .int (nI z)), (6, .int 1)]) (by decide) rfl dL_law_1429 ?_
    refine JG_aload_n 2 rfl dL_law_1431 ?_
    refine JG_aload_n 0 rfl dL_law_1432 ?_
    refine JG_iload 5 rfl dL_law_1433 ?_
    refine JG_iconst (v := 1) (by decide) dL_law_1435 ?_
    refine JG_iadd dL_law_1436 ?_
    refine JG_topeq (nI (z + 1)) (by exact nI_add z 1) ?_
    refine JG_sld (vp_in_nI (by omega) (by omega)) dL_law_1437 ?_
    refine JG_topeq p1 (by rw [nI_toNat (by omega)]; exact e1) ?_
    refine JG_callX8 (As := [.int p1]) (rest := []) [] (w9 ++ wlo cy S G) dL_law_1438 (c_X8_speakerOn_x hM hR hI (by omega) hx) rfl rfl lm_L_199 kc_yX8_speakerOn ki_yX8_speakerOn kv_yX8_speakerOn kd_yX8_speakerOn ⟨Nat.le_of_ble_eq_true rfl, Nat.le_of_ble_eq_true rfl⟩ (by show (cells + 1) + 0 ≤ 603072; omega) (by show (slots + 6) + 0 ≤ 7186538; omega) (Nat.le_of_ble_eq_true rfl) (fun _ w8 r2 => ?_)
    obtain ⟨rfl, I3, L3, rfl, hM3⟩ := r2
    refine JG_eq (w' := wm cy S I3 L3 R2 ++ (w9 ++ wlo cy S G)) (st' := [.int 0]) rfl rfl rfl ?_
    refine JG_istore (lv' := [(0, .ref b), (1, .ref (ka S 0 0)), (2, .ref (ka S 30 0)), (3, .ref (ka S 80 0)), (4, .ref (ka S 81 0)), (5, .int (nI z)), (6, .int 1), (7, .int 0)]) (by decide) rfl dL_law_1441 ?_
    refine JG_aload_n 2 rfl dL_law_1443 ?_
    refine JG_callX8 (As := []) (rest := []) [] (w9 ++ wlo cy S G) dL_law_1444 (c_X8_thrown hM3) rfl rfl lm_L_133 kc_yX8_thrown ki_yX8_thrown kv_yX8_thrown kd_yX8_thrown ⟨Nat.le_of_ble_eq_true rfl, Nat.le_of_ble_eq_true rfl⟩ (by show ((cells + 1) + 0) + 0 ≤ 603072; omega) (by show ((slots + 6) + 0) + 0 ≤ 7186538; omega) (Nat.le_of_ble_eq_true rfl) (fun _ w8 r4 => ?_)
    obtain ⟨rfl, I5, L5, rfl, hM5⟩ := r4
    refine JG_eq (w' := wm cy S I5 L5 R2 ++ (w9 ++ wlo cy S G)) (st' := [.int 1]) rfl rfl rfl ?_
    refine JG_iload 6 rfl dL_law_1447 ?_
    refine JG_icmp_eq 1454 (by decide) dL_law_1449 (fun c6 => ?_) (fun c6 => ?_)
    rotate_left
    · exact absurd (by decide) c6
    refine JG_iload 6 rfl dL_law_1454 ?_
    refine JG_if_ne 1471 (by decide) dL_law_1456 (fun c7 => ?_) (fun c7 => ?_)
    rotate_left
    · exact absurd c7 (by decide)
    refine JG_goto 2268 (by decide) dL_law_1471 ?_
    refine JG_sub (lv' := [(0, .ref b), (1, .ref (ka S 0 0)), (2, .ref (ka S 30 0)), (3, .ref (ka S 80 0)), (4, .ref (ka S 81 0)), (5, .int (nI z))]) [0, 1, 2, 3, 4, 5] rfl ?_
    exact kk m _ _ _ _ _ _ _ _ ⟨LP, rc, hP⟩ hI (by omega) hM5 (by omega) (by omega)

set_option maxRecDepth 20000 in
set_option maxHeartbeats 1000000 in
theorem lc_channelOf {cy : Nat → ClassId} {S : Nat → Nat → Nat} {I I2 : kI} {L L2 G : kL} {R R2 : kRf} {LP : List Nat} {m : Mu} {rc : Nat → Nat} {ln qu : List Nat} {lg B : Nat} {cd : Int32} {b Lx z cells slots : Nat} {xs : Nat → Int32} {p1 : Int32} (hR : Rel m I L R LP rc ln qu lg) (hI : Inv m B) (hB : B + 100000 < 2 ^ 30) (hlg : lg < 2 ^ 30) (hM : MR m cd I2 L2) (hz : z + 4 < Lx) (hLx : Lx ≤ 2560) (hcl : cells + 101 ≤ 603072) (hsl : slots + 1307 ≤ 7186538) (e1 : xs (z + 1) = p1) (kk : ∀ (m' : Mu) (B' : Nat) (w9 : va_W) (I2 : kI) (L2 : kL) (cd : Int32) (G : kL) (c' s' : Nat), (∃ LP rc, RelX cy S LP rc m' w9) → Inv m' B' → B' ≤ B + 90000 → MR m' cd I2 L2 → c' ≤ cells + 100 → s' ≤ slots + 1300 → JG RL cL_law 9 cy room_1 (ExL b Lx xs) FinL 2268 [(0, .ref b), (1, .ref (ka S 0 0)), (2, .ref (ka S 30 0)), (3, .ref (ka S 80 0)), (4, .ref (ka S 81 0)), (5, .int (nI z))] [] (wm cy S I2 L2 R2 ++ (w9 ++ wlo cy S G)) c' s') : JG RL cL_law 9 cy room_1 (ExL b Lx xs) FinL 1306 [(0, .ref b), (1, .ref (ka S 0 0)), (2, .ref (ka S 30 0)), (3, .ref (ka S 80 0)), (4, .ref (ka S 81 0)), (5, .int (nI z))] [] (wm cy S I2 L2 R2 ++ (wc cy S I L R LP ++ wlo cy S G)) cells slots := by
  have hl31 : lg < 2 ^ 31 := by omega
  rcases lt_or (mC m) p1 with ⟨i, hi, rfl⟩ | hx
  · skip
    by_cases hsp : m.1 55 i = 115
    · skip
      refine JG_aload_n 1 rfl dL_law_1306 ?_
      refine JG_aload_n 0 rfl dL_law_1307 ?_
      refine JG_iload 5 rfl dL_law_1308 ?_
      refine JG_iconst (v := 1) (by decide) dL_law_1310 ?_
      refine JG_iadd dL_law_1311 ?_
      refine JG_topeq (nI (z + 1)) (by exact nI_add z 1) ?_
      refine JG_sld (vp_in_nI (by omega) (by omega)) dL_law_1312 ?_
      refine JG_topeq (nI i) (by rw [nI_toNat (by omega)]; exact e1) ?_
      refine JG_aload_n 3 rfl dL_law_1313 ?_
      refine JG_callH (As := [.ref (ka S 0 0), .int (nI i), .ref (ka S 80 0)]) (rest := []) (wm cy S I2 L2 R2) [] dL_law_1314 (w_channelOf_s  (c_X7_channelOf_s hR hI (by omega) hlg hi hsp)) (by rw [List.append_nil]) lm_L_191 kw_L_channelOf kiniL ks_L_channelOf kdL_channelOf ⟨Nat.le_of_ble_eq_true rfl, Nat.le_of_ble_eq_true rfl⟩ (by show cells + 0 ≤ 603072; omega) (by show slots + 0 ≤ 7186538; omega) (Nat.le_of_ble_eq_true rfl) (fun _ w8 r1 => ?_)
      obtain ⟨rfl, w9, hP, rfl⟩ := r1
      refine JG_eq (w' := wm cy S I2 L2 R2 ++ (w9 ++ wlo cy S (ku G 80 0 0 (m.1 56 i).toInt64))) (st' := [.int 0]) (by rw [List.append_nil]) rfl rfl ?_
      refine JG_istore (lv' := [(0, .ref b), (1, .ref (ka S 0 0)), (2, .ref (ka S 30 0)), (3, .ref (ka S 80 0)), (4, .ref (ka S 81 0)), (5, .int (nI z)), (6, .int 0)]) (by decide) rfl dL_law_1317 ?_
      refine JG_aload_n 2 rfl dL_law_1319 ?_
      refine JG_aload_n 0 rfl dL_law_1320 ?_
      refine JG_iload 5 rfl dL_law_1321 ?_
      refine JG_iconst (v := 1) (by decide) dL_law_1323 ?_
      refine JG_iadd dL_law_1324 ?_
      refine JG_topeq (nI (z + 1)) (by exact nI_add z 1) ?_
      refine JG_sld (vp_in_nI (by omega) (by omega)) dL_law_1325 ?_
      refine JG_topeq (nI i) (by rw [nI_toNat (by omega)]; exact e1) ?_
      refine JG_callX8 (As := [.int (nI i)]) (rest := []) [] (w9 ++ wlo cy S (ku G 80 0 0 (m.1 56 i).toInt64)) dL_law_1326 (c_X8_channelOf_s hM hR hI (by omega) hi hsp) rfl rfl lm_L_193 kc_yX8_channelOf ki_yX8_channelOf kv_yX8_channelOf kd_yX8_channelOf ⟨Nat.le_of_ble_eq_true rfl, Nat.le_of_ble_eq_true rfl⟩ (by show (cells + 0) + 0 ≤ 603072; omega) (by show (slots + 0) + 0 ≤ 7186538; omega) (Nat.le_of_ble_eq_true rfl) (fun _ w8 r2 => ?_)
      obtain ⟨rfl, I3, L3, rfl, hM3⟩ := r2
      refine JG_eq (w' := wm cy S I3 L3 R2 ++ (w9 ++ wlo cy S (ku G 80 0 0 (m.1 56 i).toInt64))) (st' := [.int (m.1 56 i)]) rfl rfl rfl ?_
      refine JG_istore (lv' := [(0, .ref b), (1, .ref (ka S 0 0)), (2, .ref (ka S 30 0)), (3, .ref (ka S 80 0)), (4, .ref (ka S 81 0)), (5, .int (nI z)), (6, .int 0), (7, .int (m.1 56 i))]) (by decide) rfl dL_law_1329 ?_
      refine JG_aload_n 2 rfl dL_law_1331 ?_
      refine JG_callX8 (As := []) (rest := []) [] (w9 ++ wlo cy S (ku G 80 0 0 (m.1 56 i).toInt64)) dL_law_1332 (c_X8_thrown hM3) rfl rfl lm_L_133 kc_yX8_thrown ki_yX8_thrown kv_yX8_thrown kd_yX8_thrown ⟨Nat.le_of_ble_eq_true rfl, Nat.le_of_ble_eq_true rfl⟩ (by show ((cells + 0) + 0) + 0 ≤ 603072; omega) (by show ((slots + 0) + 0) + 0 ≤ 7186538; omega) (Nat.le_of_ble_eq_true rfl) (fun _ w8 r4 => ?_)
      obtain ⟨rfl, I5, L5, rfl, hM5⟩ := r4
      refine JG_eq (w' := wm cy S I5 L5 R2 ++ (w9 ++ wlo cy S (ku G 80 0 0 (m.1 56 i).toInt64))) (st' := [.int 0]) rfl rfl rfl ?_
      refine JG_iload 6 rfl dL_law_1335 ?_
      refine JG_icmp_eq 1342 (by decide) dL_law_1337 (fun c6 => ?_) (fun c6 => ?_)
      rotate_left
      · exact absurd (by decide) c6
      refine JG_iload 6 rfl dL_law_1342 ?_
      refine JG_if_ne 1359 (by decide) dL_law_1344 (fun c7 => ?_) (fun c7 => ?_)
      · exact absurd (by decide) c7
      refine JG_aload_n 3 rfl dL_law_1347 ?_
      refine JG_iconst (v := 0) (by decide) dL_law_1348 ?_
      refine JG_eq (w' := (wm cy S I5 L5 R2 ++ w9) ++ wlo cy S (ku G 80 0 0 (m.1 56 i).toInt64)) (List.append_assoc _ _ _).symm rfl rfl ?_
      refine JG_laldO dL_law_1349 ?_
      refine JG_eq (w' := wm cy S I5 L5 R2 ++ (w9 ++ wlo cy S (ku G 80 0 0 (m.1 56 i).toInt64))) (st' := [.long (m.1 56 i).toInt64]) (List.append_assoc _ _ _) rfl (by rw [ku_eq]) ?_
      refine JG_iload 7 rfl dL_law_1350 ?_
      refine JG_i2l dL_law_1352 ?_
      refine JG_lcmp (rfl) dL_law_1353 ?_
      refine JG_if_eq 1359 (by decide) dL_law_1354 (fun c8 => ?_) (fun c8 => ?_)
      rotate_left
      · exact absurd (by decide) c8
      refine JG_goto 2268 (by decide) dL_law_1359 ?_
      refine JG_sub (lv' := [(0, .ref b), (1, .ref (ka S 0 0)), (2, .ref (ka S 30 0)), (3, .ref (ka S 80 0)), (4, .ref (ka S 81 0)), (5, .int (nI z))]) [0, 1, 2, 3, 4, 5] rfl ?_
      exact kk m _ _ _ _ _ _ _ _ ⟨LP, rc, hP⟩ hI (by omega) hM5 (by omega) (by omega)
    · skip
      refine JG_aload_n 1 rfl dL_law_1306 ?_
      refine JG_aload_n 0 rfl dL_law_1307 ?_
      refine JG_iload 5 rfl dL_law_1308 ?_
      refine JG_iconst (v := 1) (by decide) dL_law_1310 ?_
      refine JG_iadd dL_law_1311 ?_
      refine JG_topeq (nI (z + 1)) (by exact nI_add z 1) ?_
      refine JG_sld (vp_in_nI (by omega) (by omega)) dL_law_1312 ?_
      refine JG_topeq (nI i) (by rw [nI_toNat (by omega)]; exact e1) ?_
      refine JG_aload_n 3 rfl dL_law_1313 ?_
      refine JG_callH (As := [.ref (ka S 0 0), .int (nI i), .ref (ka S 80 0)]) (rest := []) (wm cy S I2 L2 R2) [] dL_law_1314 (w_channelOf_2 (c_X7_channelOf_y hR hI (by omega) hlg hi hsp)) (by rw [List.append_nil]) lm_L_191 kw_L_channelOf kiniL ks_L_channelOf kdL_channelOf ⟨Nat.le_of_ble_eq_true rfl, Nat.le_of_ble_eq_true rfl⟩ (by show cells + 1 ≤ 603072; omega) (by show slots + 6 ≤ 7186538; omega) (Nat.le_of_ble_eq_true rfl) (fun _ w8 r1 => ?_)
      obtain ⟨rfl, w9, hP, rfl⟩ := r1
      refine JG_eq (w' := wm cy S I2 L2 R2 ++ (w9 ++ wlo cy S G)) (st' := [.int 2]) (by rw [List.append_nil]) rfl rfl ?_
      refine JG_istore (lv' := [(0, .ref b), (1, .ref (ka S 0 0)), (2, .ref (ka S 30 0)), (3, .ref (ka S 80 0)), (4, .ref (ka S 81 0)), (5, .int (nI z)), (6, .int 2)]) (by decide) rfl dL_law_1317 ?_
      refine JG_aload_n 2 rfl dL_law_1319 ?_
      refine JG_aload_n 0 rfl dL_law_1320 ?_
      refine JG_iload 5 rfl dL_law_1321 ?_
      refine JG_iconst (v := 1) (by decide) dL_law_1323 ?_
      refine JG_iadd dL_law_1324 ?_
      refine JG_topeq (nI (z + 1)) (by exact nI_add z 1) ?_
      refine JG_sld (vp_in_nI (by omega) (by omega)) dL_law_1325 ?_
      refine JG_topeq (nI i) (by rw [nI_toNat (by omega)]; exact e1) ?_
      refine JG_callX8 (As := [.int (nI i)]) (rest := []) [] (w9 ++ wlo cy S G) dL_law_1326 (c_X8_channelOf_y hM hR hI (by omega) hi hsp) rfl rfl lm_L_193 kc_yX8_channelOf ki_yX8_channelOf kv_yX8_channelOf kd_yX8_channelOf ⟨Nat.le_of_ble_eq_true rfl, Nat.le_of_ble_eq_true rfl⟩ (by show (cells + 1) + 0 ≤ 603072; omega) (by show (slots + 6) + 0 ≤ 7186538; omega) (Nat.le_of_ble_eq_true rfl) (fun _ w8 r2 => ?_)
      obtain ⟨rfl, I3, L3, rfl, hM3⟩ := r2
      refine JG_eq (w' := wm cy S I3 L3 R2 ++ (w9 ++ wlo cy S G)) (st' := [.int 0]) rfl rfl rfl ?_
      refine JG_istore (lv' := [(0, .ref b), (1, .ref (ka S 0 0)), (2, .ref (ka S 30 0)), (3, .ref (ka S 80 0)), (4, .ref (ka S 81 0)), (5, .int (nI z)), (6, .int 2), (7, .int 0)]) (by decide) rfl dL_law_1329 ?_
      refine JG_aload_n 2 rfl dL_law_1331 ?_
      refine JG_callX8 (As := []) (rest := []) [] (w9 ++ wlo cy S G) dL_law_1332 (c_X8_thrown hM3) rfl rfl lm_L_133 kc_yX8_thrown ki_yX8_thrown kv_yX8_thrown kd_yX8_thrown ⟨Nat.le_of_ble_eq_true rfl, Nat.le_of_ble_eq_true rfl⟩ (by show ((cells + 1) + 0) + 0 ≤ 603072; omega) (by show ((slots + 6) + 0) + 0 ≤ 7186538; omega) (Nat.le_of_ble_eq_true rfl) (fun _ w8 r4 => ?_)
      obtain ⟨rfl, I5, L5, rfl, hM5⟩ := r4
      refine JG_eq (w' := wm cy S I5 L5 R2 ++ (w9 ++ wlo cy S G)) (st' := [.int 2]) rfl rfl rfl ?_
      refine JG_iload 6 rfl dL_law_1335 ?_
      refine JG_icmp_eq 1342 (by decide) dL_law_1337 (fun c6 => ?_) (fun c6 => ?_)
      rotate_left
      · exact absurd (by decide) c6
      refine JG_iload 6 rfl dL_law_1342 ?_
      refine JG_if_ne 1359 (by decide) dL_law_1344 (fun c7 => ?_) (fun c7 => ?_)
      rotate_left
      · exact absurd c7 (by decide)
      refine JG_goto 2268 (by decide) dL_law_1359 ?_
      refine JG_sub (lv' := [(0, .ref b), (1, .ref (ka S 0 0)), (2, .ref (ka S 30 0)), (3, .ref (ka S 80 0)), (4, .ref (ka S 81 0)), (5, .int (nI z))]) [0, 1, 2, 3, 4, 5] rfl ?_
      exact kk m _ _ _ _ _ _ _ _ ⟨LP, rc, hP⟩ hI (by omega) hM5 (by omega) (by omega)
  · skip
    refine JG_aload_n 1 rfl dL_law_1306 ?_
    refine JG_aload_n 0 rfl dL_law_1307 ?_
    refine JG_iload 5 rfl dL_law_1308 ?_
    refine JG_iconst (v := 1) (by decide) dL_law_1310 ?_
    refine JG_iadd dL_law_1311 ?_
    refine JG_topeq (nI (z + 1)) (by exact nI_add z 1) ?_
    refine JG_sld (vp_in_nI (by omega) (by omega)) dL_law_1312 ?_
    refine JG_topeq p1 (by rw [nI_toNat (by omega)]; exact e1) ?_
    refine JG_aload_n 3 rfl dL_law_1313 ?_
    refine JG_callH (As := [.ref (ka S 0 0), .int p1, .ref (ka S 80 0)]) (rest := []) (wm cy S I2 L2 R2) [] dL_law_1314 (w_channelOf_1 (c_X7_channelOf_x hR hI (by omega) hlg hx)) (by rw [List.append_nil]) lm_L_191 kw_L_channelOf kiniL ks_L_channelOf kdL_channelOf ⟨Nat.le_of_ble_eq_true rfl, Nat.le_of_ble_eq_true rfl⟩ (by show cells + 1 ≤ 603072; omega) (by show slots + 6 ≤ 7186538; omega) (Nat.le_of_ble_eq_true rfl) (fun _ w8 r1 => ?_)
    obtain ⟨rfl, w9, hP, rfl⟩ := r1
    refine JG_eq (w' := wm cy S I2 L2 R2 ++ (w9 ++ wlo cy S G)) (st' := [.int 1]) (by rw [List.append_nil]) rfl rfl ?_
    refine JG_istore (lv' := [(0, .ref b), (1, .ref (ka S 0 0)), (2, .ref (ka S 30 0)), (3, .ref (ka S 80 0)), (4, .ref (ka S 81 0)), (5, .int (nI z)), (6, .int 1)]) (by decide) rfl dL_law_1317 ?_
    refine JG_aload_n 2 rfl dL_law_1319 ?_
    refine JG_aload_n 0 rfl dL_law_1320 ?_
    refine JG_iload 5 rfl dL_law_1321 ?_
    refine JG_iconst (v := 1) (by decide) dL_law_1323 ?_
    refine JG_iadd dL_law_1324 ?_
    refine JG_topeq (nI (z + 1)) (by exact nI_add z 1) ?_
    refine JG_sld (vp_in_nI (by omega) (by omega)) dL_law_1325 ?_
    refine JG_topeq p1 (by rw [nI_toNat (by omega)]; exact e1) ?_
    refine JG_callX8 (As := [.int p1]) (rest := []) [] (w9 ++ wlo cy S G) dL_law_1326 (c_X8_channelOf_x hM hR hI (by omega) hx) rfl rfl lm_L_193 kc_yX8_channelOf ki_yX8_channelOf kv_yX8_channelOf kd_yX8_channelOf ⟨Nat.le_of_ble_eq_true rfl, Nat.le_of_ble_eq_true rfl⟩ (by show (cells + 1) + 0 ≤ 603072; omega) (by show (slots + 6) + 0 ≤ 7186538; omega) (Nat.le_of_ble_eq_true rfl) (fun _ w8 r2 => ?_)
    obtain ⟨rfl, I3, L3, rfl, hM3⟩ := r2
    refine JG_eq (w' := wm cy S I3 L3 R2 ++ (w9 ++ wlo cy S G)) (st' := [.int 0]) rfl rfl rfl ?_
    refine JG_istore (lv' := [(0, .ref b), (1, .ref (ka S 0 0)), (2, .ref (ka S 30 0)), (3, .ref (ka S 80 0)), (4, .ref (ka S 81 0)), (5, .int (nI z)), (6, .int 1), (7, .int 0)]) (by decide) rfl dL_law_1329 ?_
    refine JG_aload_n 2 rfl dL_law_1331 ?_
    refine JG_callX8 (As := []) (rest := []) [] (w9 ++ wlo cy S G) dL_law_1332 (c_X8_thrown hM3) rfl rfl lm_L_133 kc_yX8_thrown ki_yX8_thrown kv_yX8_thrown kd_yX8_thrown ⟨Nat.le_of_ble_eq_true rfl, Nat.le_of_ble_eq_true rfl⟩ (by show ((cells + 1) + 0) + 0 ≤ 603072; omega) (by show ((slots + 6) + 0) + 0 ≤ 7186538; omega) (Nat.le_of_ble_eq_true rfl) (fun _ w8 r4 => ?_)
    obtain ⟨rfl, I5, L5, rfl, hM5⟩ := r4
    refine JG_eq (w' := wm cy S I5 L5 R2 ++ (w9 ++ wlo cy S G)) (st' := [.int 1]) rfl rfl rfl ?_
    refine JG_iload 6 rfl dL_law_1335 ?_
    refine JG_icmp_eq 1342 (by decide) dL_law_1337 (fun c6 => ?_) (fun c6 => ?_)
    rotate_left
    · exact absurd (by decide) c6
    refine JG_iload 6 rfl dL_law_1342 ?_
    refine JG_if_ne 1359 (by decide) dL_law_1344 (fun c7 => ?_) (fun c7 => ?_)
    rotate_left
    · exact absurd c7 (by decide)
    refine JG_goto 2268 (by decide) dL_law_1359 ?_
    refine JG_sub (lv' := [(0, .ref b), (1, .ref (ka S 0 0)), (2, .ref (ka S 30 0)), (3, .ref (ka S 80 0)), (4, .ref (ka S 81 0)), (5, .int (nI z))]) [0, 1, 2, 3, 4, 5] rfl ?_
    exact kk m _ _ _ _ _ _ _ _ ⟨LP, rc, hP⟩ hI (by omega) hM5 (by omega) (by omega)

set_option maxRecDepth 20000 in
set_option maxHeartbeats 1000000 in
theorem lc_call {cy : Nat → ClassId} {S : Nat → Nat → Nat} {I I2 : kI} {L L2 G : kL} {R R2 : kRf} {LP : List Nat} {m : Mu} {rc : Nat → Nat} {ln qu : List Nat} {lg B : Nat} {cd : Int32} {b Lx z cells slots : Nat} {xs : Nat → Int32} {p1 p2 p3 p4 : Int32} (hR : Rel m I L R LP rc ln qu lg) (hI : Inv m B) (hB : B + 100000 < 2 ^ 30) (hlg : lg < 2 ^ 30) (hM : MR m cd I2 L2) (hz : z + 4 < Lx) (hLx : Lx ≤ 2560) (hcl : cells + 101 ≤ 603072) (hsl : slots + 1307 ≤ 7186538) (e1 : xs (z + 1) = p1) (e2 : xs (z + 2) = p2) (e3 : xs (z + 3) = p3) (e4 : xs (z + 4) = p4) (kk : ∀ (m' : Mu) (B' : Nat) (w9 : va_W) (I2 : kI) (L2 : kL) (cd : Int32) (G : kL) (c' s' : Nat), (∃ LP rc, RelX cy S LP rc m' w9) → Inv m' B' → B' ≤ B + 90000 → MR m' cd I2 L2 → c' ≤ cells + 100 → s' ≤ slots + 1300 → JG RL cL_law 9 cy room_1 (ExL b Lx xs) FinL 2268 [(0, .ref b), (1, .ref (ka S 0 0)), (2, .ref (ka S 30 0)), (3, .ref (ka S 80 0)), (4, .ref (ka S 81 0)), (5, .int (nI z))] [] (wm cy S I2 L2 R2 ++ (w9 ++ wlo cy S G)) c' s') : JG RL cL_law 9 cy room_1 (ExL b Lx xs) FinL 918 [(0, .ref b), (1, .ref (ka S 0 0)), (2, .ref (ka S 30 0)), (3, .ref (ka S 80 0)), (4, .ref (ka S 81 0)), (5, .int (nI z))] [] (wm cy S I2 L2 R2 ++ (wc cy S I L R LP ++ wlo cy S G)) cells slots := by
  have hl31 : lg < 2 ^ 31 := by omega
  obtain ⟨u, hu0⟩ : ∃ u, (p3.toUInt32 % 65536).toInt32 = u := ⟨_, rfl⟩
  rcases lt_or (mS m) p1 with ⟨s, hs, rfl⟩ | hx
  · skip
    rcases lt_or (mS m) p2 with ⟨t, ht, rfl⟩ | hx
    · skip
      by_cases hne : s = t
      · subst hne
        refine JG_aload_n 1 rfl dL_law_918 ?_
        refine JG_aload_n 0 rfl dL_law_919 ?_
        refine JG_iload 5 rfl dL_law_920 ?_
        refine JG_iconst (v := 1) (by decide) dL_law_922 ?_
        refine JG_iadd dL_law_923 ?_
        refine JG_topeq (nI (z + 1)) (by exact nI_add z 1) ?_
        refine JG_sld (vp_in_nI (by omega) (by omega)) dL_law_924 ?_
        refine JG_topeq (nI s) (by rw [nI_toNat (by omega)]; exact e1) ?_
        refine JG_aload_n 0 rfl dL_law_925 ?_
        refine JG_iload 5 rfl dL_law_926 ?_
        refine JG_iconst (v := 2) (by decide) dL_law_928 ?_
        refine JG_iadd dL_law_929 ?_
        refine JG_topeq (nI (z + 2)) (by exact nI_add z 2) ?_
        refine JG_sld (vp_in_nI (by omega) (by omega)) dL_law_930 ?_
        refine JG_topeq (nI s) (by rw [nI_toNat (by omega)]; exact e2) ?_
        refine JG_aload_n 0 rfl dL_law_931 ?_
        refine JG_iload 5 rfl dL_law_932 ?_
        refine JG_iconst (v := 3) (by decide) dL_law_934 ?_
        refine JG_iadd dL_law_935 ?_
        refine JG_topeq (nI (z + 3)) (by exact nI_add z 3) ?_
        refine JG_sld (vp_in_nI (by omega) (by omega)) dL_law_936 ?_
        refine JG_topeq p3 (by rw [nI_toNat (by omega)]; exact e3) ?_
        refine JG_i2c dL_law_937 ?_
        refine JG_topeq u hu0 ?_
        refine JG_aload_n 0 rfl dL_law_938 ?_
        refine JG_iload 5 rfl dL_law_939 ?_
        refine JG_iconst (v := 4) (by decide) dL_law_941 ?_
        refine JG_iadd dL_law_942 ?_
        refine JG_topeq (nI (z + 4)) (by exact nI_add z 4) ?_
        refine JG_sld (vp_in_nI (by omega) (by omega)) dL_law_943 ?_
        refine JG_topeq p4 (by rw [nI_toNat (by omega)]; exact e4) ?_
        refine JG_aload_n 3 rfl dL_law_944 ?_
        refine JG_callH (As := [.ref (ka S 0 0), .int (nI s), .int (nI s), .int u, .int p4, .ref (ka S 80 0)]) (rest := []) (wm cy S I2 L2 R2) [] dL_law_945 (w_call_2 (c_X7_call_e hR hI (by omega) hlg hs)) (by rw [List.append_nil]) lm_L_171 kw_L_call kiniL ks_L_call kdL_call ⟨Nat.le_of_ble_eq_true rfl, Nat.le_of_ble_eq_true rfl⟩ (by show cells + 1 ≤ 603072; omega) (by show slots + 6 ≤ 7186538; omega) (Nat.le_of_ble_eq_true rfl) (fun _ w8 r1 => ?_)
        obtain ⟨rfl, w9, hP, rfl⟩ := r1
        refine JG_eq (w' := wm cy S I2 L2 R2 ++ (w9 ++ wlo cy S G)) (st' := [.int 2]) (by rw [List.append_nil]) rfl rfl ?_
        refine JG_istore (lv' := [(0, .ref b), (1, .ref (ka S 0 0)), (2, .ref (ka S 30 0)), (3, .ref (ka S 80 0)), (4, .ref (ka S 81 0)), (5, .int (nI z)), (6, .int 2)]) (by decide) rfl dL_law_948 ?_
        refine JG_aload_n 2 rfl dL_law_950 ?_
        refine JG_aload_n 0 rfl dL_law_951 ?_
        refine JG_iload 5 rfl dL_law_952 ?_
        refine JG_iconst (v := 1) (by decide) dL_law_954 ?_
        refine JG_iadd dL_law_955 ?_
        refine JG_topeq (nI (z + 1)) (by exact nI_add z 1) ?_
        refine JG_sld (vp_in_nI (by omega) (by omega)) dL_law_956 ?_
        refine JG_topeq (nI s) (by rw [nI_toNat (by omega)]; exact e1) ?_
        refine JG_aload_n 0 rfl dL_law_957 ?_
        refine JG_iload 5 rfl dL_law_958 ?_
        refine JG_iconst (v := 2) (by decide) dL_law_960 ?_
        refine JG_iadd dL_law_961 ?_
        refine JG_topeq (nI (z + 2)) (by exact nI_add z 2) ?_
        refine JG_sld (vp_in_nI (by omega) (by omega)) dL_law_962 ?_
        refine JG_topeq (nI s) (by rw [nI_toNat (by omega)]; exact e2) ?_
        refine JG_aload_n 0 rfl dL_law_963 ?_
        refine JG_iload 5 rfl dL_law_964 ?_
        refine JG_iconst (v := 3) (by decide) dL_law_966 ?_
        refine JG_iadd dL_law_967 ?_
        refine JG_topeq (nI (z + 3)) (by exact nI_add z 3) ?_
        refine JG_sld (vp_in_nI (by omega) (by omega)) dL_law_968 ?_
        refine JG_topeq p3 (by rw [nI_toNat (by omega)]; exact e3) ?_
        refine JG_i2c dL_law_969 ?_
        refine JG_topeq u hu0 ?_
        refine JG_aload_n 0 rfl dL_law_970 ?_
        refine JG_iload 5 rfl dL_law_971 ?_
        refine JG_iconst (v := 4) (by decide) dL_law_973 ?_
        refine JG_iadd dL_law_974 ?_
        refine JG_topeq (nI (z + 4)) (by exact nI_add z 4) ?_
        refine JG_sld (vp_in_nI (by omega) (by omega)) dL_law_975 ?_
        refine JG_topeq p4 (by rw [nI_toNat (by omega)]; exact e4) ?_
        refine JG_callX8 (As := [.int (nI s), .int (nI s), .int u, .int p4]) (rest := []) [] (w9 ++ wlo cy S G) dL_law_976 (c_X8_call_e hM hR hI (by omega) hs) rfl rfl lm_L_174 kc_yX8_call ki_yX8_call kv_yX8_call kd_yX8_call ⟨Nat.le_of_ble_eq_true rfl, Nat.le_of_ble_eq_true rfl⟩ (by show (cells + 1) + 0 ≤ 603072; omega) (by show (slots + 6) + 0 ≤ 7186538; omega) (Nat.le_of_ble_eq_true rfl) (fun _ w8 r2 => ?_)
        obtain ⟨rfl, I3, L3, rfl, hM3⟩ := r2
        refine JG_eq (w' := wm cy S I3 L3 R2 ++ (w9 ++ wlo cy S G)) (st' := [.int 0]) rfl rfl rfl ?_
        refine JG_istore (lv' := [(0, .ref b), (1, .ref (ka S 0 0)), (2, .ref (ka S 30 0)), (3, .ref (ka S 80 0)), (4, .ref (ka S 81 0)), (5, .int (nI z)), (6, .int 2), (7, .int 0)]) (by decide) rfl dL_law_979 ?_
        refine JG_aload_n 2 rfl dL_law_981 ?_
        refine JG_callX8 (As := []) (rest := []) [] (w9 ++ wlo cy S G) dL_law_982 (c_X8_thrown hM3) rfl rfl lm_L_133 kc_yX8_thrown ki_yX8_thrown kv_yX8_thrown kd_yX8_thrown ⟨Nat.le_of_ble_eq_true rfl, Nat.le_of_ble_eq_true rfl⟩ (by show ((cells + 1) + 0) + 0 ≤ 603072; omega) (by show ((slots + 6) + 0) + 0 ≤ 7186538; omega) (Nat.le_of_ble_eq_true rfl) (fun _ w8 r4 => ?_)
        obtain ⟨rfl, I5, L5, rfl, hM5⟩ := r4
        refine JG_eq (w' := wm cy S I5 L5 R2 ++ (w9 ++ wlo cy S G)) (st' := [.int 2]) rfl rfl rfl ?_
        refine JG_iload 6 rfl dL_law_985 ?_
        refine JG_icmp_eq 992 (by decide) dL_law_987 (fun c6 => ?_) (fun c6 => ?_)
        rotate_left
        · exact absurd (by decide) c6
        refine JG_iload 6 rfl dL_law_992 ?_
        refine JG_if_ne 1009 (by decide) dL_law_994 (fun c7 => ?_) (fun c7 => ?_)
        rotate_left
        · exact absurd c7 (by decide)
        refine JG_goto 2268 (by decide) dL_law_1009 ?_
        refine JG_sub (lv' := [(0, .ref b), (1, .ref (ka S 0 0)), (2, .ref (ka S 30 0)), (3, .ref (ka S 80 0)), (4, .ref (ka S 81 0)), (5, .int (nI z))]) [0, 1, 2, 3, 4, 5] rfl ?_
        exact kk m _ _ _ _ _ _ _ _ ⟨LP, rc, hP⟩ hI (by omega) hM5 (by omega) (by omega)
      · skip
        by_cases hu : u = 100 ∨ u = 117 ∨ u = 115 ∨ u = 114
        · skip
          by_cases hk : 1 ≤ p4 ∧ p4 ≤ 30
          · skip
            rcases mFull_or m with hfu | hfu
            · skip
              refine JG_aload_n 1 rfl dL_law_918 ?_
              refine JG_aload_n 0 rfl dL_law_919 ?_
              refine JG_iload 5 rfl dL_law_920 ?_
              refine JG_iconst (v := 1) (by decide) dL_law_922 ?_
              refine JG_iadd dL_law_923 ?_
              refine JG_topeq (nI (z + 1)) (by exact nI_add z 1) ?_
              refine JG_sld (vp_in_nI (by omega) (by omega)) dL_law_924 ?_
              refine JG_topeq (nI s) (by rw [nI_toNat (by omega)]; exact e1) ?_
              refine JG_aload_n 0 rfl dL_law_925 ?_
              refine JG_iload 5 rfl dL_law_926 ?_
              refine JG_iconst (v := 2) (by decide) dL_law_928 ?_
              refine JG_iadd dL_law_929 ?_
              refine JG_topeq (nI (z + 2)) (by exact nI_add z 2) ?_
              refine JG_sld (vp_in_nI (by omega) (by omega)) dL_law_930 ?_
              refine JG_topeq (nI t) (by rw [nI_toNat (by omega)]; exact e2) ?_
              refine JG_aload_n 0 rfl dL_law_931 ?_
              refine JG_iload 5 rfl dL_law_932 ?_
              refine JG_iconst (v := 3) (by decide) dL_law_934 ?_
              refine JG_iadd dL_law_935 ?_
              refine JG_topeq (nI (z + 3)) (by exact nI_add z 3) ?_
              refine JG_sld (vp_in_nI (by omega) (by omega)) dL_law_936 ?_
              refine JG_topeq p3 (by rw [nI_toNat (by omega)]; exact e3) ?_
              refine JG_i2c dL_law_937 ?_
              refine JG_topeq u hu0 ?_
              refine JG_aload_n 0 rfl dL_law_938 ?_
              refine JG_iload 5 rfl dL_law_939 ?_
              refine JG_iconst (v := 4) (by decide) dL_law_941 ?_
              refine JG_iadd dL_law_942 ?_
              refine JG_topeq (nI (z + 4)) (by exact nI_add z 4) ?_
              refine JG_sld (vp_in_nI (by omega) (by omega)) dL_law_943 ?_
              refine JG_topeq p4 (by rw [nI_toNat (by omega)]; exact e4) ?_
              refine JG_aload_n 3 rfl dL_law_944 ?_
              refine JG_callH (As := [.ref (ka S 0 0), .int (nI s), .int (nI t), .int u, .int p4, .ref (ka S 80 0)]) (rest := []) (wm cy S I2 L2 R2) [] dL_law_945 (w_call_s  (c_X7_call_s hR hI (by omega) hlg hs ht hne hu hk hfu)) (by rw [List.append_nil]) lm_L_171 kw_L_call kiniL ks_L_call kdL_call ⟨Nat.le_of_ble_eq_true rfl, Nat.le_of_ble_eq_true rfl⟩ (by show cells + 1 ≤ 603072; omega) (by show slots + 13 ≤ 7186538; omega) (Nat.le_of_ble_eq_true rfl) (fun _ w8 r1 => ?_)
              obtain ⟨rfl, w9, hP, rfl⟩ := r1
              refine JG_eq (w' := wm cy S I2 L2 R2 ++ (w9 ++ wlo cy S (ku G 80 0 0 (nI (mC m)).toInt64))) (st' := [.int 0]) (by rw [List.append_nil]) rfl rfl ?_
              refine JG_istore (lv' := [(0, .ref b), (1, .ref (ka S 0 0)), (2, .ref (ka S 30 0)), (3, .ref (ka S 80 0)), (4, .ref (ka S 81 0)), (5, .int (nI z)), (6, .int 0)]) (by decide) rfl dL_law_948 ?_
              refine JG_aload_n 2 rfl dL_law_950 ?_
              refine JG_aload_n 0 rfl dL_law_951 ?_
              refine JG_iload 5 rfl dL_law_952 ?_
              refine JG_iconst (v := 1) (by decide) dL_law_954 ?_
              refine JG_iadd dL_law_955 ?_
              refine JG_topeq (nI (z + 1)) (by exact nI_add z 1) ?_
              refine JG_sld (vp_in_nI (by omega) (by omega)) dL_law_956 ?_
              refine JG_topeq (nI s) (by rw [nI_toNat (by omega)]; exact e1) ?_
              refine JG_aload_n 0 rfl dL_law_957 ?_
              refine JG_iload 5 rfl dL_law_958 ?_
              refine JG_iconst (v := 2) (by decide) dL_law_960 ?_
              refine JG_iadd dL_law_961 ?_
              refine JG_topeq (nI (z + 2)) (by exact nI_add z 2) ?_
              refine JG_sld (vp_in_nI (by omega) (by omega)) dL_law_962 ?_
              refine JG_topeq (nI t) (by rw [nI_toNat (by omega)]; exact e2) ?_
              refine JG_aload_n 0 rfl dL_law_963 ?_
              refine JG_iload 5 rfl dL_law_964 ?_
              refine JG_iconst (v := 3) (by decide) dL_law_966 ?_
              refine JG_iadd dL_law_967 ?_
              refine JG_topeq (nI (z + 3)) (by exact nI_add z 3) ?_
              refine JG_sld (vp_in_nI (by omega) (by omega)) dL_law_968 ?_
              refine JG_topeq p3 (by rw [nI_toNat (by omega)]; exact e3) ?_
              refine JG_i2c dL_law_969 ?_
              refine JG_topeq u hu0 ?_
              refine JG_aload_n 0 rfl dL_law_970 ?_
              refine JG_iload 5 rfl dL_law_971 ?_
              refine JG_iconst (v := 4) (by decide) dL_law_973 ?_
              refine JG_iadd dL_law_974 ?_
              refine JG_topeq (nI (z + 4)) (by exact nI_add z 4) ?_
              refine JG_sld (vp_in_nI (by omega) (by omega)) dL_law_975 ?_
              refine JG_topeq p4 (by rw [nI_toNat (by omega)]; exact e4) ?_
              refine JG_callX8 (As := [.int (nI s), .int (nI t), .int u, .int p4]) (rest := []) [] (w9 ++ wlo cy S (ku G 80 0 0 (nI (mC m)).toInt64)) dL_law_976 (c_X8_call_s hM hR hI (by omega) hs ht hne hu hk hfu) rfl rfl lm_L_174 kc_yX8_call ki_yX8_call kv_yX8_call kd_yX8_call ⟨Nat.le_of_ble_eq_true rfl, Nat.le_of_ble_eq_true rfl⟩ (by show (cells + 1) + 0 ≤ 603072; omega) (by show (slots + 13) + 0 ≤ 7186538; omega) (Nat.le_of_ble_eq_true rfl) (fun _ w8 r2 => ?_)
              obtain ⟨rfl, I3, L3, rfl, hM3⟩ := r2
              refine JG_eq (w' := wm cy S I3 L3 R2 ++ (w9 ++ wlo cy S (ku G 80 0 0 (nI (mC m)).toInt64))) (st' := [.int (nI (mC m))]) rfl rfl rfl ?_
              refine JG_istore (lv' := [(0, .ref b), (1, .ref (ka S 0 0)), (2, .ref (ka S 30 0)), (3, .ref (ka S 80 0)), (4, .ref (ka S 81 0)), (5, .int (nI z)), (6, .int 0), (7, .int (nI (mC m)))]) (by decide) rfl dL_law_979 ?_
              refine JG_aload_n 2 rfl dL_law_981 ?_
              refine JG_callX8 (As := []) (rest := []) [] (w9 ++ wlo cy S (ku G 80 0 0 (nI (mC m)).toInt64)) dL_law_982 (c_X8_thrown hM3) rfl rfl lm_L_133 kc_yX8_thrown ki_yX8_thrown kv_yX8_thrown kd_yX8_thrown ⟨Nat.le_of_ble_eq_true rfl, Nat.le_of_ble_eq_true rfl⟩ (by show ((cells + 1) + 0) + 0 ≤ 603072; omega) (by show ((slots + 13) + 0) + 0 ≤ 7186538; omega) (Nat.le_of_ble_eq_true rfl) (fun _ w8 r4 => ?_)
              obtain ⟨rfl, I5, L5, rfl, hM5⟩ := r4
              refine JG_eq (w' := wm cy S I5 L5 R2 ++ (w9 ++ wlo cy S (ku G 80 0 0 (nI (mC m)).toInt64))) (st' := [.int 0]) rfl rfl rfl ?_
              refine JG_iload 6 rfl dL_law_985 ?_
              refine JG_icmp_eq 992 (by decide) dL_law_987 (fun c6 => ?_) (fun c6 => ?_)
              rotate_left
              · exact absurd (by decide) c6
              refine JG_iload 6 rfl dL_law_992 ?_
              refine JG_if_ne 1009 (by decide) dL_law_994 (fun c7 => ?_) (fun c7 => ?_)
              · exact absurd (by decide) c7
              refine JG_aload_n 3 rfl dL_law_997 ?_
              refine JG_iconst (v := 0) (by decide) dL_law_998 ?_
              refine JG_eq (w' := (wm cy S I5 L5 R2 ++ w9) ++ wlo cy S (ku G 80 0 0 (nI (mC m)).toInt64)) (List.append_assoc _ _ _).symm rfl rfl ?_
              refine JG_laldO dL_law_999 ?_
              refine JG_eq (w' := wm cy S I5 L5 R2 ++ (w9 ++ wlo cy S (ku G 80 0 0 (nI (mC m)).toInt64))) (st' := [.long (nI (mC m)).toInt64]) (List.append_assoc _ _ _) rfl (by rw [ku_eq]) ?_
              refine JG_iload 7 rfl dL_law_1000 ?_
              refine JG_i2l dL_law_1002 ?_
              refine JG_lcmp (rfl) dL_law_1003 ?_
              refine JG_if_eq 1009 (by decide) dL_law_1004 (fun c8 => ?_) (fun c8 => ?_)
              rotate_left
              · exact absurd (by decide) c8
              refine JG_goto 2268 (by decide) dL_law_1009 ?_
              refine JG_sub (lv' := [(0, .ref b), (1, .ref (ka S 0 0)), (2, .ref (ka S 30 0)), (3, .ref (ka S 80 0)), (4, .ref (ka S 81 0)), (5, .int (nI z))]) [0, 1, 2, 3, 4, 5] rfl ?_
              exact kk (mSpeak (mPlace m (nI s) (nI t) u p4)) _ _ _ _ _ _ _ _ hP (speak_inv (inv_place (k := p4) hR.2.1.1 hI hfu hs ht hne hu) (by omega)) (by omega) hM5 (by omega) (by omega)
            · skip
              refine JG_aload_n 1 rfl dL_law_918 ?_
              refine JG_aload_n 0 rfl dL_law_919 ?_
              refine JG_iload 5 rfl dL_law_920 ?_
              refine JG_iconst (v := 1) (by decide) dL_law_922 ?_
              refine JG_iadd dL_law_923 ?_
              refine JG_topeq (nI (z + 1)) (by exact nI_add z 1) ?_
              refine JG_sld (vp_in_nI (by omega) (by omega)) dL_law_924 ?_
              refine JG_topeq (nI s) (by rw [nI_toNat (by omega)]; exact e1) ?_
              refine JG_aload_n 0 rfl dL_law_925 ?_
              refine JG_iload 5 rfl dL_law_926 ?_
              refine JG_iconst (v := 2) (by decide) dL_law_928 ?_
              refine JG_iadd dL_law_929 ?_
              refine JG_topeq (nI (z + 2)) (by exact nI_add z 2) ?_
              refine JG_sld (vp_in_nI (by omega) (by omega)) dL_law_930 ?_
              refine JG_topeq (nI t) (by rw [nI_toNat (by omega)]; exact e2) ?_
              refine JG_aload_n 0 rfl dL_law_931 ?_
              refine JG_iload 5 rfl dL_law_932 ?_
              refine JG_iconst (v := 3) (by decide) dL_law_934 ?_
              refine JG_iadd dL_law_935 ?_
              refine JG_topeq (nI (z + 3)) (by exact nI_add z 3) ?_
              refine JG_sld (vp_in_nI (by omega) (by omega)) dL_law_936 ?_
              refine JG_topeq p3 (by rw [nI_toNat (by omega)]; exact e3) ?_
              refine JG_i2c dL_law_937 ?_
              refine JG_topeq u hu0 ?_
              refine JG_aload_n 0 rfl dL_law_938 ?_
              refine JG_iload 5 rfl dL_law_939 ?_
              refine JG_iconst (v := 4) (by decide) dL_law_941 ?_
              refine JG_iadd dL_law_942 ?_
              refine JG_topeq (nI (z + 4)) (by exact nI_add z 4) ?_
              refine JG_sld (vp_in_nI (by omega) (by omega)) dL_law_943 ?_
              refine JG_topeq p4 (by rw [nI_toNat (by omega)]; exact e4) ?_
              refine JG_aload_n 3 rfl dL_law_944 ?_
              refine JG_callH (As := [.ref (ka S 0 0), .int (nI s), .int (nI t), .int u, .int p4, .ref (ka S 80 0)]) (rest := []) (wm cy S I2 L2 R2) [] dL_law_945 (w_call_3 (c_X7_call_f hR hI (by omega) hlg hs ht hne hu hk hfu)) (by rw [List.append_nil]) lm_L_171 kw_L_call kiniL ks_L_call kdL_call ⟨Nat.le_of_ble_eq_true rfl, Nat.le_of_ble_eq_true rfl⟩ (by show cells + 1 ≤ 603072; omega) (by show slots + 6 ≤ 7186538; omega) (Nat.le_of_ble_eq_true rfl) (fun _ w8 r1 => ?_)
              obtain ⟨rfl, w9, hP, rfl⟩ := r1
              refine JG_eq (w' := wm cy S I2 L2 R2 ++ (w9 ++ wlo cy S G)) (st' := [.int 3]) (by rw [List.append_nil]) rfl rfl ?_
              refine JG_istore (lv' := [(0, .ref b), (1, .ref (ka S 0 0)), (2, .ref (ka S 30 0)), (3, .ref (ka S 80 0)), (4, .ref (ka S 81 0)), (5, .int (nI z)), (6, .int 3)]) (by decide) rfl dL_law_948 ?_
              refine JG_aload_n 2 rfl dL_law_950 ?_
              refine JG_aload_n 0 rfl dL_law_951 ?_
              refine JG_iload 5 rfl dL_law_952 ?_
              refine JG_iconst (v := 1) (by decide) dL_law_954 ?_
              refine JG_iadd dL_law_955 ?_
              refine JG_topeq (nI (z + 1)) (by exact nI_add z 1) ?_
              refine JG_sld (vp_in_nI (by omega) (by omega)) dL_law_956 ?_
              refine JG_topeq (nI s) (by rw [nI_toNat (by omega)]; exact e1) ?_
              refine JG_aload_n 0 rfl dL_law_957 ?_
              refine JG_iload 5 rfl dL_law_958 ?_
              refine JG_iconst (v := 2) (by decide) dL_law_960 ?_
              refine JG_iadd dL_law_961 ?_
              refine JG_topeq (nI (z + 2)) (by exact nI_add z 2) ?_
              refine JG_sld (vp_in_nI (by omega) (by omega)) dL_law_962 ?_
              refine JG_topeq (nI t) (by rw [nI_toNat (by omega)]; exact e2) ?_
              refine JG_aload_n 0 rfl dL_law_963 ?_
              refine JG_iload 5 rfl dL_law_964 ?_
              refine JG_iconst (v := 3) (by decide) dL_law_966 ?_
              refine JG_iadd dL_law_967 ?_
              refine JG_topeq (nI (z + 3)) (by exact nI_add z 3) ?_
              refine JG_sld (vp_in_nI (by omega) (by omega)) dL_law_968 ?_
              refine JG_topeq p3 (by rw [nI_toNat (by omega)]; exact e3) ?_
              refine JG_i2c dL_law_969 ?_
              refine JG_topeq u hu0 ?_
              refine JG_aload_n 0 rfl dL_law_970 ?_
              refine JG_iload 5 rfl dL_law_971 ?_
              refine JG_iconst (v := 4) (by decide) dL_law_973 ?_
              refine JG_iadd dL_law_974 ?_
              refine JG_topeq (nI (z + 4)) (by exact nI_add z 4) ?_
              refine JG_sld (vp_in_nI (by omega) (by omega)) dL_law_975 ?_
              refine JG_topeq p4 (by rw [nI_toNat (by omega)]; exact e4) ?_
              refine JG_callX8 (As := [.int (nI s), .int (nI t), .int u, .int p4]) (rest := []) [] (w9 ++ wlo cy S G) dL_law_976 (c_X8_call_f hM hR hI (by omega) hs ht hne hu hk hfu) rfl rfl lm_L_174 kc_yX8_call ki_yX8_call kv_yX8_call kd_yX8_call ⟨Nat.le_of_ble_eq_true rfl, Nat.le_of_ble_eq_true rfl⟩ (by show (cells + 1) + 0 ≤ 603072; omega) (by show (slots + 6) + 0 ≤ 7186538; omega) (Nat.le_of_ble_eq_true rfl) (fun _ w8 r2 => ?_)
              obtain ⟨rfl, I3, L3, rfl, hM3⟩ := r2
              refine JG_eq (w' := wm cy S I3 L3 R2 ++ (w9 ++ wlo cy S G)) (st' := [.int 0]) rfl rfl rfl ?_
              refine JG_istore (lv' := [(0, .ref b), (1, .ref (ka S 0 0)), (2, .ref (ka S 30 0)), (3, .ref (ka S 80 0)), (4, .ref (ka S 81 0)), (5, .int (nI z)), (6, .int 3), (7, .int 0)]) (by decide) rfl dL_law_979 ?_
              refine JG_aload_n 2 rfl dL_law_981 ?_
              refine JG_callX8 (As := []) (rest := []) [] (w9 ++ wlo cy S G) dL_law_982 (c_X8_thrown hM3) rfl rfl lm_L_133 kc_yX8_thrown ki_yX8_thrown kv_yX8_thrown kd_yX8_thrown ⟨Nat.le_of_ble_eq_true rfl, Nat.le_of_ble_eq_true rfl⟩ (by show ((cells + 1) + 0) + 0 ≤ 603072; omega) (by show ((slots + 6) + 0) + 0 ≤ 7186538; omega) (Nat.le_of_ble_eq_true rfl) (fun _ w8 r4 => ?_)
              obtain ⟨rfl, I5, L5, rfl, hM5⟩ := r4
              refine JG_eq (w' := wm cy S I5 L5 R2 ++ (w9 ++ wlo cy S G)) (st' := [.int 3]) rfl rfl rfl ?_
              refine JG_iload 6 rfl dL_law_985 ?_
              refine JG_icmp_eq 992 (by decide) dL_law_987 (fun c6 => ?_) (fun c6 => ?_)
              rotate_left
              · exact absurd (by decide) c6
              refine JG_iload 6 rfl dL_law_992 ?_
              refine JG_if_ne 1009 (by decide) dL_law_994 (fun c7 => ?_) (fun c7 => ?_)
              rotate_left
              · exact absurd c7 (by decide)
              refine JG_goto 2268 (by decide) dL_law_1009 ?_
              refine JG_sub (lv' := [(0, .ref b), (1, .ref (ka S 0 0)), (2, .ref (ka S 30 0)), (3, .ref (ka S 80 0)), (4, .ref (ka S 81 0)), (5, .int (nI z))]) [0, 1, 2, 3, 4, 5] rfl ?_
              exact kk m _ _ _ _ _ _ _ _ ⟨LP, rc, hP⟩ hI (by omega) hM5 (by omega) (by omega)
          · skip
            refine JG_aload_n 1 rfl dL_law_918 ?_
            refine JG_aload_n 0 rfl dL_law_919 ?_
            refine JG_iload 5 rfl dL_law_920 ?_
            refine JG_iconst (v := 1) (by decide) dL_law_922 ?_
            refine JG_iadd dL_law_923 ?_
            refine JG_topeq (nI (z + 1)) (by exact nI_add z 1) ?_
            refine JG_sld (vp_in_nI (by omega) (by omega)) dL_law_924 ?_
            refine JG_topeq (nI s) (by rw [nI_toNat (by omega)]; exact e1) ?_
            refine JG_aload_n 0 rfl dL_law_925 ?_
            refine JG_iload 5 rfl dL_law_926 ?_
            refine JG_iconst (v := 2) (by decide) dL_law_928 ?_
            refine JG_iadd dL_law_929 ?_
            refine JG_topeq (nI (z + 2)) (by exact nI_add z 2) ?_
            refine JG_sld (vp_in_nI (by omega) (by omega)) dL_law_930 ?_
            refine JG_topeq (nI t) (by rw [nI_toNat (by omega)]; exact e2) ?_
            refine JG_aload_n 0 rfl dL_law_931 ?_
            refine JG_iload 5 rfl dL_law_932 ?_
            refine JG_iconst (v := 3) (by decide) dL_law_934 ?_
            refine JG_iadd dL_law_935 ?_
            refine JG_topeq (nI (z + 3)) (by exact nI_add z 3) ?_
            refine JG_sld (vp_in_nI (by omega) (by omega)) dL_law_936 ?_
            refine JG_topeq p3 (by rw [nI_toNat (by omega)]; exact e3) ?_
            refine JG_i2c dL_law_937 ?_
            refine JG_topeq u hu0 ?_
            refine JG_aload_n 0 rfl dL_law_938 ?_
            refine JG_iload 5 rfl dL_law_939 ?_
            refine JG_iconst (v := 4) (by decide) dL_law_941 ?_
            refine JG_iadd dL_law_942 ?_
            refine JG_topeq (nI (z + 4)) (by exact nI_add z 4) ?_
            refine JG_sld (vp_in_nI (by omega) (by omega)) dL_law_943 ?_
            refine JG_topeq p4 (by rw [nI_toNat (by omega)]; exact e4) ?_
            refine JG_aload_n 3 rfl dL_law_944 ?_
            refine JG_callH (As := [.ref (ka S 0 0), .int (nI s), .int (nI t), .int u, .int p4, .ref (ka S 80 0)]) (rest := []) (wm cy S I2 L2 R2) [] dL_law_945 (w_call_2 (c_X7_call_k hR hI (by omega) hlg hs ht hne hu hk)) (by rw [List.append_nil]) lm_L_171 kw_L_call kiniL ks_L_call kdL_call ⟨Nat.le_of_ble_eq_true rfl, Nat.le_of_ble_eq_true rfl⟩ (by show cells + 1 ≤ 603072; omega) (by show slots + 6 ≤ 7186538; omega) (Nat.le_of_ble_eq_true rfl) (fun _ w8 r1 => ?_)
            obtain ⟨rfl, w9, hP, rfl⟩ := r1
            refine JG_eq (w' := wm cy S I2 L2 R2 ++ (w9 ++ wlo cy S G)) (st' := [.int 2]) (by rw [List.append_nil]) rfl rfl ?_
            refine JG_istore (lv' := [(0, .ref b), (1, .ref (ka S 0 0)), (2, .ref (ka S 30 0)), (3, .ref (ka S 80 0)), (4, .ref (ka S 81 0)), (5, .int (nI z)), (6, .int 2)]) (by decide) rfl dL_law_948 ?_
            refine JG_aload_n 2 rfl dL_law_950 ?_
            refine JG_aload_n 0 rfl dL_law_951 ?_
            refine JG_iload 5 rfl dL_law_952 ?_
            refine JG_iconst (v := 1) (by decide) dL_law_954 ?_
            refine JG_iadd dL_law_955 ?_
            refine JG_topeq (nI (z + 1)) (by exact nI_add z 1) ?_
            refine JG_sld (vp_in_nI (by omega) (by omega)) dL_law_956 ?_
            refine JG_topeq (nI s) (by rw [nI_toNat (by omega)]; exact e1) ?_
            refine JG_aload_n 0 rfl dL_law_957 ?_
            refine JG_iload 5 rfl dL_law_958 ?_
            refine JG_iconst (v := 2) (by decide) dL_law_960 ?_
            refine JG_iadd dL_law_961 ?_
            refine JG_topeq (nI (z + 2)) (by exact nI_add z 2) ?_
            refine JG_sld (vp_in_nI (by omega) (by omega)) dL_law_962 ?_
            refine JG_topeq (nI t) (by rw [nI_toNat (by omega)]; exact e2) ?_
            refine JG_aload_n 0 rfl dL_law_963 ?_
            refine JG_iload 5 rfl dL_law_964 ?_
            refine JG_iconst (v := 3) (by decide) dL_law_966 ?_
            refine JG_iadd dL_law_967 ?_
            refine JG_topeq (nI (z + 3)) (by exact nI_add z 3) ?_
            refine JG_sld (vp_in_nI (by omega) (by omega)) dL_law_968 ?_
            refine JG_topeq p3 (by rw [nI_toNat (by omega)]; exact e3) ?_
            refine JG_i2c dL_law_969 ?_
            refine JG_topeq u hu0 ?_
            refine JG_aload_n 0 rfl dL_law_970 ?_
            refine JG_iload 5 rfl dL_law_971 ?_
            refine JG_iconst (v := 4) (by decide) dL_law_973 ?_
            refine JG_iadd dL_law_974 ?_
            refine JG_topeq (nI (z + 4)) (by exact nI_add z 4) ?_
            refine JG_sld (vp_in_nI (by omega) (by omega)) dL_law_975 ?_
            refine JG_topeq p4 (by rw [nI_toNat (by omega)]; exact e4) ?_
            refine JG_callX8 (As := [.int (nI s), .int (nI t), .int u, .int p4]) (rest := []) [] (w9 ++ wlo cy S G) dL_law_976 (c_X8_call_k hM hR hI (by omega) hs ht hne hu hk) rfl rfl lm_L_174 kc_yX8_call ki_yX8_call kv_yX8_call kd_yX8_call ⟨Nat.le_of_ble_eq_true rfl, Nat.le_of_ble_eq_true rfl⟩ (by show (cells + 1) + 0 ≤ 603072; omega) (by show (slots + 6) + 0 ≤ 7186538; omega) (Nat.le_of_ble_eq_true rfl) (fun _ w8 r2 => ?_)
            obtain ⟨rfl, I3, L3, rfl, hM3⟩ := r2
            refine JG_eq (w' := wm cy S I3 L3 R2 ++ (w9 ++ wlo cy S G)) (st' := [.int 0]) rfl rfl rfl ?_
            refine JG_istore (lv' := [(0, .ref b), (1, .ref (ka S 0 0)), (2, .ref (ka S 30 0)), (3, .ref (ka S 80 0)), (4, .ref (ka S 81 0)), (5, .int (nI z)), (6, .int 2), (7, .int 0)]) (by decide) rfl dL_law_979 ?_
            refine JG_aload_n 2 rfl dL_law_981 ?_
            refine JG_callX8 (As := []) (rest := []) [] (w9 ++ wlo cy S G) dL_law_982 (c_X8_thrown hM3) rfl rfl lm_L_133 kc_yX8_thrown ki_yX8_thrown kv_yX8_thrown kd_yX8_thrown ⟨Nat.le_of_ble_eq_true rfl, Nat.le_of_ble_eq_true rfl⟩ (by show ((cells + 1) + 0) + 0 ≤ 603072; omega) (by show ((slots + 6) + 0) + 0 ≤ 7186538; omega) (Nat.le_of_ble_eq_true rfl) (fun _ w8 r4 => ?_)
            obtain ⟨rfl, I5, L5, rfl, hM5⟩ := r4
            refine JG_eq (w' := wm cy S I5 L5 R2 ++ (w9 ++ wlo cy S G)) (st' := [.int 2]) rfl rfl rfl ?_
            refine JG_iload 6 rfl dL_law_985 ?_
            refine JG_icmp_eq 992 (by decide) dL_law_987 (fun c6 => ?_) (fun c6 => ?_)
            rotate_left
            · exact absurd (by decide) c6
            refine JG_iload 6 rfl dL_law_992 ?_
            refine JG_if_ne 1009 (by decide) dL_law_994 (fun c7 => ?_) (fun c7 => ?_)
            rotate_left
            · exact absurd c7 (by decide)
            refine JG_goto 2268 (by decide) dL_law_1009 ?_
            refine JG_sub (lv' := [(0, .ref b), (1, .ref (ka S 0 0)), (2, .ref (ka S 30 0)), (3, .ref (ka S 80 0)), (4, .ref (ka S 81 0)), (5, .int (nI z))]) [0, 1, 2, 3, 4, 5] rfl ?_
            exact kk m _ _ _ _ _ _ _ _ ⟨LP, rc, hP⟩ hI (by omega) hM5 (by omega) (by omega)
        · skip
          refine JG_aload_n 1 rfl dL_law_918 ?_
          refine JG_aload_n 0 rfl dL_law_919 ?_
          refine JG_iload 5 rfl dL_law_920 ?_
          refine JG_iconst (v := 1) (by decide) dL_law_922 ?_
          refine JG_iadd dL_law_923 ?_
          refine JG_topeq (nI (z + 1)) (by exact nI_add z 1) ?_
          refine JG_sld (vp_in_nI (by omega) (by omega)) dL_law_924 ?_
          refine JG_topeq (nI s) (by rw [nI_toNat (by omega)]; exact e1) ?_
          refine JG_aload_n 0 rfl dL_law_925 ?_
          refine JG_iload 5 rfl dL_law_926 ?_
          refine JG_iconst (v := 2) (by decide) dL_law_928 ?_
          refine JG_iadd dL_law_929 ?_
          refine JG_topeq (nI (z + 2)) (by exact nI_add z 2) ?_
          refine JG_sld (vp_in_nI (by omega) (by omega)) dL_law_930 ?_
          refine JG_topeq (nI t) (by rw [nI_toNat (by omega)]; exact e2) ?_
          refine JG_aload_n 0 rfl dL_law_931 ?_
          refine JG_iload 5 rfl dL_law_932 ?_
          refine JG_iconst (v := 3) (by decide) dL_law_934 ?_
          refine JG_iadd dL_law_935 ?_
          refine JG_topeq (nI (z + 3)) (by exact nI_add z 3) ?_
          refine JG_sld (vp_in_nI (by omega) (by omega)) dL_law_936 ?_
          refine JG_topeq p3 (by rw [nI_toNat (by omega)]; exact e3) ?_
          refine JG_i2c dL_law_937 ?_
          refine JG_topeq u hu0 ?_
          refine JG_aload_n 0 rfl dL_law_938 ?_
          refine JG_iload 5 rfl dL_law_939 ?_
          refine JG_iconst (v := 4) (by decide) dL_law_941 ?_
          refine JG_iadd dL_law_942 ?_
          refine JG_topeq (nI (z + 4)) (by exact nI_add z 4) ?_
          refine JG_sld (vp_in_nI (by omega) (by omega)) dL_law_943 ?_
          refine JG_topeq p4 (by rw [nI_toNat (by omega)]; exact e4) ?_
          refine JG_aload_n 3 rfl dL_law_944 ?_
          refine JG_callH (As := [.ref (ka S 0 0), .int (nI s), .int (nI t), .int u, .int p4, .ref (ka S 80 0)]) (rest := []) (wm cy S I2 L2 R2) [] dL_law_945 (w_call_2 (c_X7_call_u hR hI (by omega) hlg hs ht hne hu)) (by rw [List.append_nil]) lm_L_171 kw_L_call kiniL ks_L_call kdL_call ⟨Nat.le_of_ble_eq_true rfl, Nat.le_of_ble_eq_true rfl⟩ (by show cells + 1 ≤ 603072; omega) (by show slots + 6 ≤ 7186538; omega) (Nat.le_of_ble_eq_true rfl) (fun _ w8 r1 => ?_)
          obtain ⟨rfl, w9, hP, rfl⟩ := r1
          refine JG_eq (w' := wm cy S I2 L2 R2 ++ (w9 ++ wlo cy S G)) (st' := [.int 2]) (by rw [List.append_nil]) rfl rfl ?_
          refine JG_istore (lv' := [(0, .ref b), (1, .ref (ka S 0 0)), (2, .ref (ka S 30 0)), (3, .ref (ka S 80 0)), (4, .ref (ka S 81 0)), (5, .int (nI z)), (6, .int 2)]) (by decide) rfl dL_law_948 ?_
          refine JG_aload_n 2 rfl dL_law_950 ?_
          refine JG_aload_n 0 rfl dL_law_951 ?_
          refine JG_iload 5 rfl dL_law_952 ?_
          refine JG_iconst (v := 1) (by decide) dL_law_954 ?_
          refine JG_iadd dL_law_955 ?_
          refine JG_topeq (nI (z + 1)) (by exact nI_add z 1) ?_
          refine JG_sld (vp_in_nI (by omega) (by omega)) dL_law_956 ?_
          refine JG_topeq (nI s) (by rw [nI_toNat (by omega)]; exact e1) ?_
          refine JG_aload_n 0 rfl dL_law_957 ?_
          refine JG_iload 5 rfl dL_law_958 ?_
          refine JG_iconst (v := 2) (by decide) dL_law_960 ?_
          refine JG_iadd dL_law_961 ?_
          refine JG_topeq (nI (z + 2)) (by exact nI_add z 2) ?_
          refine JG_sld (vp_in_nI (by omega) (by omega)) dL_law_962 ?_
          refine JG_topeq (nI t) (by rw [nI_toNat (by omega)]; exact e2) ?_
          refine JG_aload_n 0 rfl dL_law_963 ?_
          refine JG_iload 5 rfl dL_law_964 ?_
          refine JG_iconst (v := 3) (by decide) dL_law_966 ?_
          refine JG_iadd dL_law_967 ?_
          refine JG_topeq (nI (z + 3)) (by exact nI_add z 3) ?_
          refine JG_sld (vp_in_nI (by omega) (by omega)) dL_law_968 ?_
          refine JG_topeq p3 (by rw [nI_toNat (by omega)]; exact e3) ?_
          refine JG_i2c dL_law_969 ?_
          refine JG_topeq u hu0 ?_
          refine JG_aload_n 0 rfl dL_law_970 ?_
          refine JG_iload 5 rfl dL_law_971 ?_
          refine JG_iconst (v := 4) (by decide) dL_law_973 ?_
          refine JG_iadd dL_law_974 ?_
          refine JG_topeq (nI (z + 4)) (by exact nI_add z 4) ?_
          refine JG_sld (vp_in_nI (by omega) (by omega)) dL_law_975 ?_
          refine JG_topeq p4 (by rw [nI_toNat (by omega)]; exact e4) ?_
          refine JG_callX8 (As := [.int (nI s), .int (nI t), .int u, .int p4]) (rest := []) [] (w9 ++ wlo cy S G) dL_law_976 (c_X8_call_u hM hR hI (by omega) hs ht hne hu) rfl rfl lm_L_174 kc_yX8_call ki_yX8_call kv_yX8_call kd_yX8_call ⟨Nat.le_of_ble_eq_true rfl, Nat.le_of_ble_eq_true rfl⟩ (by show (cells + 1) + 0 ≤ 603072; omega) (by show (slots + 6) + 0 ≤ 7186538; omega) (Nat.le_of_ble_eq_true rfl) (fun _ w8 r2 => ?_)
          obtain ⟨rfl, I3, L3, rfl, hM3⟩ := r2
          refine JG_eq (w' := wm cy S I3 L3 R2 ++ (w9 ++ wlo cy S G)) (st' := [.int 0]) rfl rfl rfl ?_
          refine JG_istore (lv' := [(0, .ref b), (1, .ref (ka S 0 0)), (2, .ref (ka S 30 0)), (3, .ref (ka S 80 0)), (4, .ref (ka S 81 0)), (5, .int (nI z)), (6, .int 2), (7, .int 0)]) (by decide) rfl dL_law_979 ?_
          refine JG_aload_n 2 rfl dL_law_981 ?_
          refine JG_callX8 (As := []) (rest := []) [] (w9 ++ wlo cy S G) dL_law_982 (c_X8_thrown hM3) rfl rfl lm_L_133 kc_yX8_thrown ki_yX8_thrown kv_yX8_thrown kd_yX8_thrown ⟨Nat.le_of_ble_eq_true rfl, Nat.le_of_ble_eq_true rfl⟩ (by show ((cells + 1) + 0) + 0 ≤ 603072; omega) (by show ((slots + 6) + 0) + 0 ≤ 7186538; omega) (Nat.le_of_ble_eq_true rfl) (fun _ w8 r4 => ?_)
          obtain ⟨rfl, I5, L5, rfl, hM5⟩ := r4
          refine JG_eq (w' := wm cy S I5 L5 R2 ++ (w9 ++ wlo cy S G)) (st' := [.int 2]) rfl rfl rfl ?_
          refine JG_iload 6 rfl dL_law_985 ?_
          refine JG_icmp_eq 992 (by decide) dL_law_987 (fun c6 => ?_) (fun c6 => ?_)
          rotate_left
          · exact absurd (by decide) c6
          refine JG_iload 6 rfl dL_law_992 ?_
          refine JG_if_ne 1009 (by decide) dL_law_994 (fun c7 => ?_) (fun c7 => ?_)
          rotate_left
          · exact absurd c7 (by decide)
          refine JG_goto 2268 (by decide) dL_law_1009 ?_
          refine JG_sub (lv' := [(0, .ref b), (1, .ref (ka S 0 0)), (2, .ref (ka S 30 0)), (3, .ref (ka S 80 0)), (4, .ref (ka S 81 0)), (5, .int (nI z))]) [0, 1, 2, 3, 4, 5] rfl ?_
          exact kk m _ _ _ _ _ _ _ _ ⟨LP, rc, hP⟩ hI (by omega) hM5 (by omega) (by omega)
    · skip
      refine JG_aload_n 1 rfl dL_law_918 ?_
      refine JG_aload_n 0 rfl dL_law_919 ?_
      refine JG_iload 5 rfl dL_law_920 ?_
      refine JG_iconst (v := 1) (by decide) dL_law_922 ?_
      refine JG_iadd dL_law_923 ?_
      refine JG_topeq (nI (z + 1)) (by exact nI_add z 1) ?_
      refine JG_sld (vp_in_nI (by omega) (by omega)) dL_law_924 ?_
      refine JG_topeq (nI s) (by rw [nI_toNat (by omega)]; exact e1) ?_
      refine JG_aload_n 0 rfl dL_law_925 ?_
      refine JG_iload 5 rfl dL_law_926 ?_
      refine JG_iconst (v := 2) (by decide) dL_law_928 ?_
      refine JG_iadd dL_law_929 ?_
      refine JG_topeq (nI (z + 2)) (by exact nI_add z 2) ?_
      refine JG_sld (vp_in_nI (by omega) (by omega)) dL_law_930 ?_
      refine JG_topeq p2 (by rw [nI_toNat (by omega)]; exact e2) ?_
      refine JG_aload_n 0 rfl dL_law_931 ?_
      refine JG_iload 5 rfl dL_law_932 ?_
      refine JG_iconst (v := 3) (by decide) dL_law_934 ?_
      refine JG_iadd dL_law_935 ?_
      refine JG_topeq (nI (z + 3)) (by exact nI_add z 3) ?_
      refine JG_sld (vp_in_nI (by omega) (by omega)) dL_law_936 ?_
      refine JG_topeq p3 (by rw [nI_toNat (by omega)]; exact e3) ?_
      refine JG_i2c dL_law_937 ?_
      refine JG_topeq u hu0 ?_
      refine JG_aload_n 0 rfl dL_law_938 ?_
      refine JG_iload 5 rfl dL_law_939 ?_
      refine JG_iconst (v := 4) (by decide) dL_law_941 ?_
      refine JG_iadd dL_law_942 ?_
      refine JG_topeq (nI (z + 4)) (by exact nI_add z 4) ?_
      refine JG_sld (vp_in_nI (by omega) (by omega)) dL_law_943 ?_
      refine JG_topeq p4 (by rw [nI_toNat (by omega)]; exact e4) ?_
      refine JG_aload_n 3 rfl dL_law_944 ?_
      refine JG_callH (As := [.ref (ka S 0 0), .int (nI s), .int p2, .int u, .int p4, .ref (ka S 80 0)]) (rest := []) (wm cy S I2 L2 R2) [] dL_law_945 (w_call_1 (c_X7_call_y hR hI (by omega) hlg hs hx)) (by rw [List.append_nil]) lm_L_171 kw_L_call kiniL ks_L_call kdL_call ⟨Nat.le_of_ble_eq_true rfl, Nat.le_of_ble_eq_true rfl⟩ (by show cells + 1 ≤ 603072; omega) (by show slots + 6 ≤ 7186538; omega) (Nat.le_of_ble_eq_true rfl) (fun _ w8 r1 => ?_)
      obtain ⟨rfl, w9, hP, rfl⟩ := r1
      refine JG_eq (w' := wm cy S I2 L2 R2 ++ (w9 ++ wlo cy S G)) (st' := [.int 1]) (by rw [List.append_nil]) rfl rfl ?_
      refine JG_istore (lv' := [(0, .ref b), (1, .ref (ka S 0 0)), (2, .ref (ka S 30 0)), (3, .ref (ka S 80 0)), (4, .ref (ka S 81 0)), (5, .int (nI z)), (6, .int 1)]) (by decide) rfl dL_law_948 ?_
      refine JG_aload_n 2 rfl dL_law_950 ?_
      refine JG_aload_n 0 rfl dL_law_951 ?_
      refine JG_iload 5 rfl dL_law_952 ?_
      refine JG_iconst (v := 1) (by decide) dL_law_954 ?_
      refine JG_iadd dL_law_955 ?_
      refine JG_topeq (nI (z + 1)) (by exact nI_add z 1) ?_
      refine JG_sld (vp_in_nI (by omega) (by omega)) dL_law_956 ?_
      refine JG_topeq (nI s) (by rw [nI_toNat (by omega)]; exact e1) ?_
      refine JG_aload_n 0 rfl dL_law_957 ?_
      refine JG_iload 5 rfl dL_law_958 ?_
      refine JG_iconst (v := 2) (by decide) dL_law_960 ?_
      refine JG_iadd dL_law_961 ?_
      refine JG_topeq (nI (z + 2)) (by exact nI_add z 2) ?_
      refine JG_sld (vp_in_nI (by omega) (by omega)) dL_law_962 ?_
      refine JG_topeq p2 (by rw [nI_toNat (by omega)]; exact e2) ?_
      refine JG_aload_n 0 rfl dL_law_963 ?_
      refine JG_iload 5 rfl dL_law_964 ?_
      refine JG_iconst (v := 3) (by decide) dL_law_966 ?_
      refine JG_iadd dL_law_967 ?_
      refine JG_topeq (nI (z + 3)) (by exact nI_add z 3) ?_
      refine JG_sld (vp_in_nI (by omega) (by omega)) dL_law_968 ?_
      refine JG_topeq p3 (by rw [nI_toNat (by omega)]; exact e3) ?_
      refine JG_i2c dL_law_969 ?_
      refine JG_topeq u hu0 ?_
      refine JG_aload_n 0 rfl dL_law_970 ?_
      refine JG_iload 5 rfl dL_law_971 ?_
      refine JG_iconst (v := 4) (by decide) dL_law_973 ?_
      refine JG_iadd dL_law_974 ?_
      refine JG_topeq (nI (z + 4)) (by exact nI_add z 4) ?_
      refine JG_sld (vp_in_nI (by omega) (by omega)) dL_law_975 ?_
      refine JG_topeq p4 (by rw [nI_toNat (by omega)]; exact e4) ?_
      refine JG_callX8 (As := [.int (nI s), .int p2, .int u, .int p4]) (rest := []) [] (w9 ++ wlo cy S G) dL_law_976 (c_X8_call_y hM hR hI (by omega) hs hx) rfl rfl lm_L_174 kc_yX8_call ki_yX8_call kv_yX8_call kd_yX8_call ⟨Nat.le_of_ble_eq_true rfl, Nat.le_of_ble_eq_true rfl⟩ (by show (cells + 1) + 0 ≤ 603072; omega) (by show (slots + 6) + 0 ≤ 7186538; omega) (Nat.le_of_ble_eq_true rfl) (fun _ w8 r2 => ?_)
      obtain ⟨rfl, I3, L3, rfl, hM3⟩ := r2
      refine JG_eq (w' := wm cy S I3 L3 R2 ++ (w9 ++ wlo cy S G)) (st' := [.int 0]) rfl rfl rfl ?_
      refine JG_istore (lv' := [(0, .ref b), (1, .ref (ka S 0 0)), (2, .ref (ka S 30 0)), (3, .ref (ka S 80 0)), (4, .ref (ka S 81 0)), (5, .int (nI z)), (6, .int 1), (7, .int 0)]) (by decide) rfl dL_law_979 ?_
      refine JG_aload_n 2 rfl dL_law_981 ?_
      refine JG_callX8 (As := []) (rest := []) [] (w9 ++ wlo cy S G) dL_law_982 (c_X8_thrown hM3) rfl rfl lm_L_133 kc_yX8_thrown ki_yX8_thrown kv_yX8_thrown kd_yX8_thrown ⟨Nat.le_of_ble_eq_true rfl, Nat.le_of_ble_eq_true rfl⟩ (by show ((cells + 1) + 0) + 0 ≤ 603072; omega) (by show ((slots + 6) + 0) + 0 ≤ 7186538; omega) (Nat.le_of_ble_eq_true rfl) (fun _ w8 r4 => ?_)
      obtain ⟨rfl, I5, L5, rfl, hM5⟩ := r4
      refine JG_eq (w' := wm cy S I5 L5 R2 ++ (w9 ++ wlo cy S G)) (st' := [.int 1]) rfl rfl rfl ?_
      refine JG_iload 6 rfl dL_law_985 ?_
      refine JG_icmp_eq 992 (by decide) dL_law_987 (fun c6 => ?_) (fun c6 => ?_)
      rotate_left
      · exact absurd (by decide) c6
      refine JG_iload 6 rfl dL_law_992 ?_
      refine JG_if_ne 1009 (by decide) dL_law_994 (fun c7 => ?_) (fun c7 => ?_)
      rotate_left
      · exact absurd c7 (by decide)
      refine JG_goto 2268 (by decide) dL_law_1009 ?_
      refine JG_sub (lv' := [(0, .ref b), (1, .ref (ka S 0 0)), (2, .ref (ka S 30 0)), (3, .ref (ka S 80 0)), (4, .ref (ka S 81 0)), (5, .int (nI z))]) [0, 1, 2, 3, 4, 5] rfl ?_
      exact kk m _ _ _ _ _ _ _ _ ⟨LP, rc, hP⟩ hI (by omega) hM5 (by omega) (by omega)
  · skip
    refine JG_aload_n 1 rfl dL_law_918 ?_
    refine JG_aload_n 0 rfl dL_law_919 ?_
    refine JG_iload 5 rfl dL_law_920 ?_
    refine JG_iconst (v := 1) (by decide) dL_law_922 ?_
    refine JG_iadd dL_law_923 ?_
    refine JG_topeq (nI (z + 1)) (by exact nI_add z 1) ?_
    refine JG_sld (vp_in_nI (by omega) (by omega)) dL_law_924 ?_
    refine JG_topeq p1 (by rw [nI_toNat (by omega)]; exact e1) ?_
    refine JG_aload_n 0 rfl dL_law_925 ?_
    refine JG_iload 5 rfl dL_law_926 ?_
    refine JG_iconst (v := 2) (by decide) dL_law_928 ?_
    refine JG_iadd dL_law_929 ?_
    refine JG_topeq (nI (z + 2)) (by exact nI_add z 2) ?_
    refine JG_sld (vp_in_nI (by omega) (by omega)) dL_law_930 ?_
    refine JG_topeq p2 (by rw [nI_toNat (by omega)]; exact e2) ?_
    refine JG_aload_n 0 rfl dL_law_931 ?_
    refine JG_iload 5 rfl dL_law_932 ?_
    refine JG_iconst (v := 3) (by decide) dL_law_934 ?_
    refine JG_iadd dL_law_935 ?_
    refine JG_topeq (nI (z + 3)) (by exact nI_add z 3) ?_
    refine JG_sld (vp_in_nI (by omega) (by omega)) dL_law_936 ?_
    refine JG_topeq p3 (by rw [nI_toNat (by omega)]; exact e3) ?_
    refine JG_i2c dL_law_937 ?_
    refine JG_topeq u hu0 ?_
    refine JG_aload_n 0 rfl dL_law_938 ?_
    refine JG_iload 5 rfl dL_law_939 ?_
    refine JG_iconst (v := 4) (by decide) dL_law_941 ?_
    refine JG_iadd dL_law_942 ?_
    refine JG_topeq (nI (z + 4)) (by exact nI_add z 4) ?_
    refine JG_sld (vp_in_nI (by omega) (by omega)) dL_law_943 ?_
    refine JG_topeq p4 (by rw [nI_toNat (by omega)]; exact e4) ?_
    refine JG_aload_n 3 rfl dL_law_944 ?_
    refine JG_callH (As := [.ref (ka S 0 0), .int p1, .int p2, .int u, .int p4, .ref (ka S 80 0)]) (rest := []) (wm cy S I2 L2 R2) [] dL_law_945 (w_call_1 (c_X7_call_x hR hI (by omega) hlg hx)) (by rw [List.append_nil]) lm_L_171 kw_L_call kiniL ks_L_call kdL_call ⟨Nat.le_of_ble_eq_true rfl, Nat.le_of_ble_eq_true rfl⟩ (by show cells + 1 ≤ 603072; omega) (by show slots + 6 ≤ 7186538; omega) (Nat.le_of_ble_eq_true rfl) (fun _ w8 r1 => ?_)
    obtain ⟨rfl, w9, hP, rfl⟩ := r1
    refine JG_eq (w' := wm cy S I2 L2 R2 ++ (w9 ++ wlo cy S G)) (st' := [.int 1]) (by rw [List.append_nil]) rfl rfl ?_
    refine JG_istore (lv' := [(0, .ref b), (1, .ref (ka S 0 0)), (2, .ref (ka S 30 0)), (3, .ref (ka S 80 0)), (4, .ref (ka S 81 0)), (5, .int (nI z)), (6, .int 1)]) (by decide) rfl dL_law_948 ?_
    refine JG_aload_n 2 rfl dL_law_950 ?_
    refine JG_aload_n 0 rfl dL_law_951 ?_
    refine JG_iload 5 rfl dL_law_952 ?_
    refine JG_iconst (v := 1) (by decide) dL_law_954 ?_
    refine JG_iadd dL_law_955 ?_
    refine JG_topeq (nI (z + 1)) (by exact nI_add z 1) ?_
    refine JG_sld (vp_in_nI (by omega) (by omega)) dL_law_956 ?_
    refine JG_topeq p1 (by rw [nI_toNat (by omega)]; exact e1) ?_
    refine JG_aload_n 0 rfl dL_law_957 ?_
    refine JG_iload 5 rfl dL_law_958 ?_
    refine JG_iconst (v := 2) (by decide) dL_law_960 ?_
    refine JG_iadd dL_law_961 ?_
    refine JG_topeq (nI (z + 2)) (by exact nI_add z 2) ?_
    refine JG_sld (vp_in_nI (by omega) (by omega)) dL_law_962 ?_
    refine JG_topeq p2 (by rw [nI_toNat (by omega)]; exact e2) ?_
    refine JG_aload_n 0 rfl dL_law_963 ?_
    refine JG_iload 5 rfl dL_law_964 ?_
    refine JG_iconst (v := 3) (by decide) dL_law_966 ?_
    refine JG_iadd dL_law_967 ?_
    refine JG_topeq (nI (z + 3)) (by exact nI_add z 3) ?_
    refine JG_sld (vp_in_nI (by omega) (by omega)) dL_law_968 ?_
    refine JG_topeq p3 (by rw [nI_toNat (by omega)]; exact e3) ?_
    refine JG_i2c dL_law_969 ?_
    refine JG_topeq u hu0 ?_
    refine JG_aload_n 0 rfl dL_law_970 ?_
    refine JG_iload 5 rfl dL_law_971 ?_
    refine JG_iconst (v := 4) (by decide) dL_law_973 ?_
    refine JG_iadd dL_law_974 ?_
    refine JG_topeq (nI (z + 4)) (by exact nI_add z 4) ?_
    refine JG_sld (vp_in_nI (by omega) (by omega)) dL_law_975 ?_
    refine JG_topeq p4 (by rw [nI_toNat (by omega)]; exact e4) ?_
    refine JG_callX8 (As := [.int p1, .int p2, .int u, .int p4]) (rest := []) [] (w9 ++ wlo cy S G) dL_law_976 (c_X8_call_x hM hR hI (by omega) hx) rfl rfl lm_L_174 kc_yX8_call ki_yX8_call kv_yX8_call kd_yX8_call ⟨Nat.le_of_ble_eq_true rfl, Nat.le_of_ble_eq_true rfl⟩ (by show (cells + 1) + 0 ≤ 603072; omega) (by show (slots + 6) + 0 ≤ 7186538; omega) (Nat.le_of_ble_eq_true rfl) (fun _ w8 r2 => ?_)
    obtain ⟨rfl, I3, L3, rfl, hM3⟩ := r2
    refine JG_eq (w' := wm cy S I3 L3 R2 ++ (w9 ++ wlo cy S G)) (st' := [.int 0]) rfl rfl rfl ?_
    refine JG_istore (lv' := [(0, .ref b), (1, .ref (ka S 0 0)), (2, .ref (ka S 30 0)), (3, .ref (ka S 80 0)), (4, .ref (ka S 81 0)), (5, .int (nI z)), (6, .int 1), (7, .int 0)]) (by decide) rfl dL_law_979 ?_
    refine JG_aload_n 2 rfl dL_law_981 ?_
    refine JG_callX8 (As := []) (rest := []) [] (w9 ++ wlo cy S G) dL_law_982 (c_X8_thrown hM3) rfl rfl lm_L_133 kc_yX8_thrown ki_yX8_thrown kv_yX8_thrown kd_yX8_thrown ⟨Nat.le_of_ble_eq_true rfl, Nat.le_of_ble_eq_true rfl⟩ (by show ((cells + 1) + 0) + 0 ≤ 603072; omega) (by show ((slots + 6) + 0) + 0 ≤ 7186538; omega) (Nat.le_of_ble_eq_true rfl) (fun _ w8 r4 => ?_)
    obtain ⟨rfl, I5, L5, rfl, hM5⟩ := r4
    refine JG_eq (w' := wm cy S I5 L5 R2 ++ (w9 ++ wlo cy S G)) (st' := [.int 1]) rfl rfl rfl ?_
    refine JG_iload 6 rfl dL_law_985 ?_
    refine JG_icmp_eq 992 (by decide) dL_law_987 (fun c6 => ?_) (fun c6 => ?_)
    rotate_left
    · exact absurd (by decide) c6
    refine JG_iload 6 rfl dL_law_992 ?_
    refine JG_if_ne 1009 (by decide) dL_law_994 (fun c7 => ?_) (fun c7 => ?_)
    rotate_left
    · exact absurd c7 (by decide)
    refine JG_goto 2268 (by decide) dL_law_1009 ?_
    refine JG_sub (lv' := [(0, .ref b), (1, .ref (ka S 0 0)), (2, .ref (ka S 30 0)), (3, .ref (ka S 80 0)), (4, .ref (ka S 81 0)), (5, .int (nI z))]) [0, 1, 2, 3, 4, 5] rfl ?_
    exact kk m _ _ _ _ _ _ _ _ ⟨LP, rc, hP⟩ hI (by omega) hM5 (by omega) (by omega)

set_option maxRecDepth 20000 in
set_option maxHeartbeats 1000000 in
theorem lc_cancel {cy : Nat → ClassId} {S : Nat → Nat → Nat} {I I2 : kI} {L L2 G : kL} {R R2 : kRf} {LP : List Nat} {m : Mu} {rc : Nat → Nat} {ln qu : List Nat} {lg B : Nat} {cd : Int32} {b Lx z cells slots : Nat} {xs : Nat → Int32} {p1 : Int32} (hR : Rel m I L R LP rc ln qu lg) (hI : Inv m B) (hB : B + 100000 < 2 ^ 30) (hlg : lg < 2 ^ 30) (hM : MR m cd I2 L2) (hz : z + 4 < Lx) (hLx : Lx ≤ 2560) (hcl : cells + 101 ≤ 603072) (hsl : slots + 1307 ≤ 7186538) (e1 : xs (z + 1) = p1) (kk : ∀ (m' : Mu) (B' : Nat) (w9 : va_W) (I2 : kI) (L2 : kL) (cd : Int32) (G : kL) (c' s' : Nat), (∃ LP rc, RelX cy S LP rc m' w9) → Inv m' B' → B' ≤ B + 90000 → MR m' cd I2 L2 → c' ≤ cells + 100 → s' ≤ slots + 1300 → JG RL cL_law 9 cy room_1 (ExL b Lx xs) FinL 2268 [(0, .ref b), (1, .ref (ka S 0 0)), (2, .ref (ka S 30 0)), (3, .ref (ka S 80 0)), (4, .ref (ka S 81 0)), (5, .int (nI z))] [] (wm cy S I2 L2 R2 ++ (w9 ++ wlo cy S G)) c' s') : JG RL cL_law 9 cy room_1 (ExL b Lx xs) FinL 1012 [(0, .ref b), (1, .ref (ka S 0 0)), (2, .ref (ka S 30 0)), (3, .ref (ka S 80 0)), (4, .ref (ka S 81 0)), (5, .int (nI z))] [] (wm cy S I2 L2 R2 ++ (wc cy S I L R LP ++ wlo cy S G)) cells slots := by
  have hl31 : lg < 2 ^ 31 := by omega
  rcases lt_or (mC m) p1 with ⟨i, hi, rfl⟩ | hx
  · skip
    by_cases h2 : m.1 55 i = 115
    · skip
      refine JG_aload_n 1 rfl dL_law_1012 ?_
      refine JG_aload_n 0 rfl dL_law_1013 ?_
      refine JG_iload 5 rfl dL_law_1014 ?_
      refine JG_iconst (v := 1) (by decide) dL_law_1016 ?_
      refine JG_iadd dL_law_1017 ?_
      refine JG_topeq (nI (z + 1)) (by exact nI_add z 1) ?_
      refine JG_sld (vp_in_nI (by omega) (by omega)) dL_law_1018 ?_
      refine JG_topeq (nI i) (by rw [nI_toNat (by omega)]; exact e1) ?_
      refine JG_aload_n 3 rfl dL_law_1019 ?_
      refine JG_callH (As := [.ref (ka S 0 0), .int (nI i), .ref (ka S 80 0)]) (rest := []) (wm cy S I2 L2 R2) [] dL_law_1020 (w_cancel_s  (c_X7_cancel_sp hR hI (by omega) hlg hi h2)) (by rw [List.append_nil]) lm_L_175 kw_L_cancel kiniL ks_L_cancel kdL_cancel ⟨Nat.le_of_ble_eq_true rfl, Nat.le_of_ble_eq_true rfl⟩ (by show cells + 0 ≤ 603072; omega) (by show slots + 0 ≤ 7186538; omega) (Nat.le_of_ble_eq_true rfl) (fun _ w8 r1 => ?_)
      obtain ⟨rfl, w9, hP, rfl⟩ := r1
      refine JG_eq (w' := wm cy S I2 L2 R2 ++ (w9 ++ wlo cy S (ku G 80 0 0 ((mSpeak (caM m i)).1 54 i).toInt64))) (st' := [.int 0]) (by rw [List.append_nil]) rfl rfl ?_
      refine JG_istore (lv' := [(0, .ref b), (1, .ref (ka S 0 0)), (2, .ref (ka S 30 0)), (3, .ref (ka S 80 0)), (4, .ref (ka S 81 0)), (5, .int (nI z)), (6, .int 0)]) (by decide) rfl dL_law_1023 ?_
      refine JG_aload_n 2 rfl dL_law_1025 ?_
      refine JG_aload_n 0 rfl dL_law_1026 ?_
      refine JG_iload 5 rfl dL_law_1027 ?_
      refine JG_iconst (v := 1) (by decide) dL_law_1029 ?_
      refine JG_iadd dL_law_1030 ?_
      refine JG_topeq (nI (z + 1)) (by exact nI_add z 1) ?_
      refine JG_sld (vp_in_nI (by omega) (by omega)) dL_law_1031 ?_
      refine JG_topeq (nI i) (by rw [nI_toNat (by omega)]; exact e1) ?_
      refine JG_callX8 (As := [.int (nI i)]) (rest := []) [] (w9 ++ wlo cy S (ku G 80 0 0 ((mSpeak (caM m i)).1 54 i).toInt64)) dL_law_1032 (c_X8_cancel_s hM hR hI (by omega) hi (Or.inl h2)) rfl rfl lm_L_177 kc_yX8_cancel ki_yX8_cancel kv_yX8_cancel kd_yX8_cancel ⟨Nat.le_of_ble_eq_true rfl, Nat.le_of_ble_eq_true rfl⟩ (by show (cells + 0) + 0 ≤ 603072; omega) (by show (slots + 0) + 0 ≤ 7186538; omega) (Nat.le_of_ble_eq_true rfl) (fun _ w8 r2 => ?_)
      obtain ⟨rfl, I3, L3, rfl, hM3⟩ := r2
      refine JG_eq (w' := wm cy S I3 L3 R2 ++ (w9 ++ wlo cy S (ku G 80 0 0 ((mSpeak (caM m i)).1 54 i).toInt64))) (st' := [.int ((mSpeak (caM m i)).1 54 i)]) rfl rfl rfl ?_
      refine JG_istore (lv' := [(0, .ref b), (1, .ref (ka S 0 0)), (2, .ref (ka S 30 0)), (3, .ref (ka S 80 0)), (4, .ref (ka S 81 0)), (5, .int (nI z)), (6, .int 0), (7, .int ((mSpeak (caM m i)).1 54 i))]) (by decide) rfl dL_law_1035 ?_
      refine JG_aload_n 2 rfl dL_law_1037 ?_
      refine JG_callX8 (As := []) (rest := []) [] (w9 ++ wlo cy S (ku G 80 0 0 ((mSpeak (caM m i)).1 54 i).toInt64)) dL_law_1038 (c_X8_thrown hM3) rfl rfl lm_L_133 kc_yX8_thrown ki_yX8_thrown kv_yX8_thrown kd_yX8_thrown ⟨Nat.le_of_ble_eq_true rfl, Nat.le_of_ble_eq_true rfl⟩ (by show ((cells + 0) + 0) + 0 ≤ 603072; omega) (by show ((slots + 0) + 0) + 0 ≤ 7186538; omega) (Nat.le_of_ble_eq_true rfl) (fun _ w8 r4 => ?_)
      obtain ⟨rfl, I5, L5, rfl, hM5⟩ := r4
      refine JG_eq (w' := wm cy S I5 L5 R2 ++ (w9 ++ wlo cy S (ku G 80 0 0 ((mSpeak (caM m i)).1 54 i).toInt64))) (st' := [.int 0]) rfl rfl rfl ?_
      refine JG_iload 6 rfl dL_law_1041 ?_
      refine JG_icmp_eq 1048 (by decide) dL_law_1043 (fun c6 => ?_) (fun c6 => ?_)
      rotate_left
      · exact absurd (by decide) c6
      refine JG_iload 6 rfl dL_law_1048 ?_
      refine JG_if_ne 1065 (by decide) dL_law_1050 (fun c7 => ?_) (fun c7 => ?_)
      · exact absurd (by decide) c7
      refine JG_aload_n 3 rfl dL_law_1053 ?_
      refine JG_iconst (v := 0) (by decide) dL_law_1054 ?_
      refine JG_eq (w' := (wm cy S I5 L5 R2 ++ w9) ++ wlo cy S (ku G 80 0 0 ((mSpeak (caM m i)).1 54 i).toInt64)) (List.append_assoc _ _ _).symm rfl rfl ?_
      refine JG_laldO dL_law_1055 ?_
      refine JG_eq (w' := wm cy S I5 L5 R2 ++ (w9 ++ wlo cy S (ku G 80 0 0 ((mSpeak (caM m i)).1 54 i).toInt64))) (st' := [.long ((mSpeak (caM m i)).1 54 i).toInt64]) (List.append_assoc _ _ _) rfl (by rw [ku_eq]) ?_
      refine JG_iload 7 rfl dL_law_1056 ?_
      refine JG_i2l dL_law_1058 ?_
      refine JG_lcmp (rfl) dL_law_1059 ?_
      refine JG_if_eq 1065 (by decide) dL_law_1060 (fun c8 => ?_) (fun c8 => ?_)
      rotate_left
      · exact absurd (by decide) c8
      refine JG_goto 2268 (by decide) dL_law_1065 ?_
      refine JG_sub (lv' := [(0, .ref b), (1, .ref (ka S 0 0)), (2, .ref (ka S 30 0)), (3, .ref (ka S 80 0)), (4, .ref (ka S 81 0)), (5, .int (nI z))]) [0, 1, 2, 3, 4, 5] rfl ?_
      exact kk (mSpeak (caM m i)) _ _ _ _ _ _ _ _ ⟨LP, rc, hP⟩ (speak_inv (ca_inv hI hi (Or.inl h2)) (by omega)) (by omega) hM5 (by omega) (by omega)
    · skip
      by_cases h1 : m.1 55 i = 119
      · skip
        refine JG_aload_n 1 rfl dL_law_1012 ?_
        refine JG_aload_n 0 rfl dL_law_1013 ?_
        refine JG_iload 5 rfl dL_law_1014 ?_
        refine JG_iconst (v := 1) (by decide) dL_law_1016 ?_
        refine JG_iadd dL_law_1017 ?_
        refine JG_topeq (nI (z + 1)) (by exact nI_add z 1) ?_
        refine JG_sld (vp_in_nI (by omega) (by omega)) dL_law_1018 ?_
        refine JG_topeq (nI i) (by rw [nI_toNat (by omega)]; exact e1) ?_
        refine JG_aload_n 3 rfl dL_law_1019 ?_
        refine JG_callH (As := [.ref (ka S 0 0), .int (nI i), .ref (ka S 80 0)]) (rest := []) (wm cy S I2 L2 R2) [] dL_law_1020 (w_cancel_s  (c_X7_cancel_w hR hI (by omega) hlg hi h1)) (by rw [List.append_nil]) lm_L_175 kw_L_cancel kiniL ks_L_cancel kdL_cancel ⟨Nat.le_of_ble_eq_true rfl, Nat.le_of_ble_eq_true rfl⟩ (by show cells + 0 ≤ 603072; omega) (by show slots + 0 ≤ 7186538; omega) (Nat.le_of_ble_eq_true rfl) (fun _ w8 r1 => ?_)
        obtain ⟨rfl, w9, hP, rfl⟩ := r1
        refine JG_eq (w' := wm cy S I2 L2 R2 ++ (w9 ++ wlo cy S (ku G 80 0 0 ((mSpeak (caM m i)).1 54 i).toInt64))) (st' := [.int 0]) (by rw [List.append_nil]) rfl rfl ?_
        refine JG_istore (lv' := [(0, .ref b), (1, .ref (ka S 0 0)), (2, .ref (ka S 30 0)), (3, .ref (ka S 80 0)), (4, .ref (ka S 81 0)), (5, .int (nI z)), (6, .int 0)]) (by decide) rfl dL_law_1023 ?_
        refine JG_aload_n 2 rfl dL_law_1025 ?_
        refine JG_aload_n 0 rfl dL_law_1026 ?_
        refine JG_iload 5 rfl dL_law_1027 ?_
        refine JG_iconst (v := 1) (by decide) dL_law_1029 ?_
        refine JG_iadd dL_law_1030 ?_
        refine JG_topeq (nI (z + 1)) (by exact nI_add z 1) ?_
        refine JG_sld (vp_in_nI (by omega) (by omega)) dL_law_1031 ?_
        refine JG_topeq (nI i) (by rw [nI_toNat (by omega)]; exact e1) ?_
        refine JG_callX8 (As := [.int (nI i)]) (rest := []) [] (w9 ++ wlo cy S (ku G 80 0 0 ((mSpeak (caM m i)).1 54 i).toInt64)) dL_law_1032 (c_X8_cancel_s hM hR hI (by omega) hi (Or.inr h1)) rfl rfl lm_L_177 kc_yX8_cancel ki_yX8_cancel kv_yX8_cancel kd_yX8_cancel ⟨Nat.le_of_ble_eq_true rfl, Nat.le_of_ble_eq_true rfl⟩ (by show (cells + 0) + 0 ≤ 603072; omega) (by show (slots + 0) + 0 ≤ 7186538; omega) (Nat.le_of_ble_eq_true rfl) (fun _ w8 r2 => ?_)
        obtain ⟨rfl, I3, L3, rfl, hM3⟩ := r2
        refine JG_eq (w' := wm cy S I3 L3 R2 ++ (w9 ++ wlo cy S (ku G 80 0 0 ((mSpeak (caM m i)).1 54 i).toInt64))) (st' := [.int ((mSpeak (caM m i)).1 54 i)]) rfl rfl rfl ?_
        refine JG_istore (lv' := [(0, .ref b), (1, .ref (ka S 0 0)), (2, .ref (ka S 30 0)), (3, .ref (ka S 80 0)), (4, .ref (ka S 81 0)), (5, .int (nI z)), (6, .int 0), (7, .int ((mSpeak (caM m i)).1 54 i))]) (by decide) rfl dL_law_1035 ?_
        refine JG_aload_n 2 rfl dL_law_1037 ?_
        refine JG_callX8 (As := []) (rest := []) [] (w9 ++ wlo cy S (ku G 80 0 0 ((mSpeak (caM m i)).1 54 i).toInt64)) dL_law_1038 (c_X8_thrown hM3) rfl rfl lm_L_133 kc_yX8_thrown ki_yX8_thrown kv_yX8_thrown kd_yX8_thrown ⟨Nat.le_of_ble_eq_true rfl, Nat.le_of_ble_eq_true rfl⟩ (by show ((cells + 0) + 0) + 0 ≤ 603072; omega) (by show ((slots + 0) + 0) + 0 ≤ 7186538; omega) (Nat.le_of_ble_eq_true rfl) (fun _ w8 r4 => ?_)
        obtain ⟨rfl, I5, L5, rfl, hM5⟩ := r4
        refine JG_eq (w' := wm cy S I5 L5 R2 ++ (w9 ++ wlo cy S (ku G 80 0 0 ((mSpeak (caM m i)).1 54 i).toInt64))) (st' := [.int 0]) rfl rfl rfl ?_
        refine JG_iload 6 rfl dL_law_1041 ?_
        refine JG_icmp_eq 1048 (by decide) dL_law_1043 (fun c6 => ?_) (fun c6 => ?_)
        rotate_left
        · exact absurd (by decide) c6
        refine JG_iload 6 rfl dL_law_1048 ?_
        refine JG_if_ne 1065 (by decide) dL_law_1050 (fun c7 => ?_) (fun c7 => ?_)
        · exact absurd (by decide) c7
        refine JG_aload_n 3 rfl dL_law_1053 ?_
        refine JG_iconst (v := 0) (by decide) dL_law_1054 ?_
        refine JG_eq (w' := (wm cy S I5 L5 R2 ++ w9) ++ wlo cy S (ku G 80 0 0 ((mSpeak (caM m i)).1 54 i).toInt64)) (List.append_assoc _ _ _).symm rfl rfl ?_
        refine JG_laldO dL_law_1055 ?_
        refine JG_eq (w' := wm cy S I5 L5 R2 ++ (w9 ++ wlo cy S (ku G 80 0 0 ((mSpeak (caM m i)).1 54 i).toInt64))) (st' := [.long ((mSpeak (caM m i)).1 54 i).toInt64]) (List.append_assoc _ _ _) rfl (by rw [ku_eq]) ?_
        refine JG_iload 7 rfl dL_law_1056 ?_
        refine JG_i2l dL_law_1058 ?_
        refine JG_lcmp (rfl) dL_law_1059 ?_
        refine JG_if_eq 1065 (by decide) dL_law_1060 (fun c8 => ?_) (fun c8 => ?_)
        rotate_left
        · exact absurd (by decide) c8
        refine JG_goto 2268 (by decide) dL_law_1065 ?_
        refine JG_sub (lv' := [(0, .ref b), (1, .ref (ka S 0 0)), (2, .ref (ka S 30 0)), (3, .ref (ka S 80 0)), (4, .ref (ka S 81 0)), (5, .int (nI z))]) [0, 1, 2, 3, 4, 5] rfl ?_
        exact kk (mSpeak (caM m i)) _ _ _ _ _ _ _ _ ⟨LP, rc, hP⟩ (speak_inv (ca_inv hI hi (Or.inr h1)) (by omega)) (by omega) hM5 (by omega) (by omega)
      · skip
        refine JG_aload_n 1 rfl dL_law_1012 ?_
        refine JG_aload_n 0 rfl dL_law_1013 ?_
        refine JG_iload 5 rfl dL_law_1014 ?_
        refine JG_iconst (v := 1) (by decide) dL_law_1016 ?_
        refine JG_iadd dL_law_1017 ?_
        refine JG_topeq (nI (z + 1)) (by exact nI_add z 1) ?_
        refine JG_sld (vp_in_nI (by omega) (by omega)) dL_law_1018 ?_
        refine JG_topeq (nI i) (by rw [nI_toNat (by omega)]; exact e1) ?_
        refine JG_aload_n 3 rfl dL_law_1019 ?_
        refine JG_callH (As := [.ref (ka S 0 0), .int (nI i), .ref (ka S 80 0)]) (rest := []) (wm cy S I2 L2 R2) [] dL_law_1020 (w_cancel_2 (c_X7_cancel_o hR hI (by omega) hlg hi h1 h2)) (by rw [List.append_nil]) lm_L_175 kw_L_cancel kiniL ks_L_cancel kdL_cancel ⟨Nat.le_of_ble_eq_true rfl, Nat.le_of_ble_eq_true rfl⟩ (by show cells + 1 ≤ 603072; omega) (by show slots + 6 ≤ 7186538; omega) (Nat.le_of_ble_eq_true rfl) (fun _ w8 r1 => ?_)
        obtain ⟨rfl, w9, hP, rfl⟩ := r1
        refine JG_eq (w' := wm cy S I2 L2 R2 ++ (w9 ++ wlo cy S G)) (st' := [.int 2]) (by rw [List.append_nil]) rfl rfl ?_
        refine JG_istore (lv' := [(0, .ref b), (1, .ref (ka S 0 0)), (2, .ref (ka S 30 0)), (3, .ref (ka S 80 0)), (4, .ref (ka S 81 0)), (5, .int (nI z)), (6, .int 2)]) (by decide) rfl dL_law_1023 ?_
        refine JG_aload_n 2 rfl dL_law_1025 ?_
        refine JG_aload_n 0 rfl dL_law_1026 ?_
        refine JG_iload 5 rfl dL_law_1027 ?_
        refine JG_iconst (v := 1) (by decide) dL_law_1029 ?_
        refine JG_iadd dL_law_1030 ?_
        refine JG_topeq (nI (z + 1)) (by exact nI_add z 1) ?_
        refine JG_sld (vp_in_nI (by omega) (by omega)) dL_law_1031 ?_
        refine JG_topeq (nI i) (by rw [nI_toNat (by omega)]; exact e1) ?_
        refine JG_callX8 (As := [.int (nI i)]) (rest := []) [] (w9 ++ wlo cy S G) dL_law_1032 (c_X8_cancel_o hM hR hI (by omega) hi h1 h2) rfl rfl lm_L_177 kc_yX8_cancel ki_yX8_cancel kv_yX8_cancel kd_yX8_cancel ⟨Nat.le_of_ble_eq_true rfl, Nat.le_of_ble_eq_true rfl⟩ (by show (cells + 1) + 0 ≤ 603072; omega) (by show (slots + 6) + 0 ≤ 7186538; omega) (Nat.le_of_ble_eq_true rfl) (fun _ w8 r2 => ?_)
        obtain ⟨rfl, I3, L3, rfl, hM3⟩ := r2
        refine JG_eq (w' := wm cy S I3 L3 R2 ++ (w9 ++ wlo cy S G)) (st' := [.int 0]) rfl rfl rfl ?_
        refine JG_istore (lv' := [(0, .ref b), (1, .ref (ka S 0 0)), (2, .ref (ka S 30 0)), (3, .ref (ka S 80 0)), (4, .ref (ka S 81 0)), (5, .int (nI z)), (6, .int 2), (7, .int 0)]) (by decide) rfl dL_law_1035 ?_
        refine JG_aload_n 2 rfl dL_law_1037 ?_
        refine JG_callX8 (As := []) (rest := []) [] (w9 ++ wlo cy S G) dL_law_1038 (c_X8_thrown hM3) rfl rfl lm_L_133 kc_yX8_thrown ki_yX8_thrown kv_yX8_thrown kd_yX8_thrown ⟨Nat.le_of_ble_eq_true rfl, Nat.le_of_ble_eq_true rfl⟩ (by show ((cells + 1) + 0) + 0 ≤ 603072; omega) (by show ((slots + 6) + 0) + 0 ≤ 7186538; omega) (Nat.le_of_ble_eq_true rfl) (fun _ w8 r4 => ?_)
        obtain ⟨rfl, I5, L5, rfl, hM5⟩ := r4
        refine JG_eq (w' := wm cy S I5 L5 R2 ++ (w9 ++ wlo cy S G)) (st' := [.int 2]) rfl rfl rfl ?_
        refine JG_iload 6 rfl dL_law_1041 ?_
        refine JG_icmp_eq 1048 (by decide) dL_law_1043 (fun c6 => ?_) (fun c6 => ?_)
        rotate_left
        · exact absurd (by decide) c6
        refine JG_iload 6 rfl dL_law_1048 ?_
        refine JG_if_ne 1065 (by decide) dL_law_1050 (fun c7 => ?_) (fun c7 => ?_)
        rotate_left
        · exact absurd c7 (by decide)
        refine JG_goto 2268 (by decide) dL_law_1065 ?_
        refine JG_sub (lv' := [(0, .ref b), (1, .ref (ka S 0 0)), (2, .ref (ka S 30 0)), (3, .ref (ka S 80 0)), (4, .ref (ka S 81 0)), (5, .int (nI z))]) [0, 1, 2, 3, 4, 5] rfl ?_
        exact kk m _ _ _ _ _ _ _ _ ⟨LP, rc, hP⟩ hI (by omega) hM5 (by omega) (by omega)
  · skip
    refine JG_aload_n 1 rfl dL_law_1012 ?_
    refine JG_aload_n 0 rfl dL_law_1013 ?_
    refine JG_iload 5 rfl dL_law_1014 ?_
    refine JG_iconst (v := 1) (by decide) dL_law_1016 ?_
    refine JG_iadd dL_law_1017 ?_
    refine JG_topeq (nI (z + 1)) (by exact nI_add z 1) ?_
    refine JG_sld (vp_in_nI (by omega) (by omega)) dL_law_1018 ?_
    refine JG_topeq p1 (by rw [nI_toNat (by omega)]; exact e1) ?_
    refine JG_aload_n 3 rfl dL_law_1019 ?_
    refine JG_callH (As := [.ref (ka S 0 0), .int p1, .ref (ka S 80 0)]) (rest := []) (wm cy S I2 L2 R2) [] dL_law_1020 (w_cancel_1 (c_X7_cancel_x hR hI (by omega) hlg hx)) (by rw [List.append_nil]) lm_L_175 kw_L_cancel kiniL ks_L_cancel kdL_cancel ⟨Nat.le_of_ble_eq_true rfl, Nat.le_of_ble_eq_true rfl⟩ (by show cells + 1 ≤ 603072; omega) (by show slots + 6 ≤ 7186538; omega) (Nat.le_of_ble_eq_true rfl) (fun _ w8 r1 => ?_)
    obtain ⟨rfl, w9, hP, rfl⟩ := r1
    refine JG_eq (w' := wm cy S I2 L2 R2 ++ (w9 ++ wlo cy S G)) (st' := [.int 1]) (by rw [List.append_nil]) rfl rfl ?_
    refine JG_istore (lv' := [(0, .ref b), (1, .ref (ka S 0 0)), (2, .ref (ka S 30 0)), (3, .ref (ka S 80 0)), (4, .ref (ka S 81 0)), (5, .int (nI z)), (6, .int 1)]) (by decide) rfl dL_law_1023 ?_
    refine JG_aload_n 2 rfl dL_law_1025 ?_
    refine JG_aload_n 0 rfl dL_law_1026 ?_
    refine JG_iload 5 rfl dL_law_1027 ?_
    refine JG_iconst (v := 1) (by decide) dL_law_1029 ?_
    refine JG_iadd dL_law_1030 ?_
    refine JG_topeq (nI (z + 1)) (by exact nI_add z 1) ?_
    refine JG_sld (vp_in_nI (by omega) (by omega)) dL_law_1031 ?_
    refine JG_topeq p1 (by rw [nI_toNat (by omega)]; exact e1) ?_
    refine JG_callX8 (As := [.int p1]) (rest := []) [] (w9 ++ wlo cy S G) dL_law_1032 (c_X8_cancel_x hM hR hI (by omega) hx) rfl rfl lm_L_177 kc_yX8_cancel ki_yX8_cancel kv_yX8_cancel kd_yX8_cancel ⟨Nat.le_of_ble_eq_true rfl, Nat.le_of_ble_eq_true rfl⟩ (by show (cells + 1) + 0 ≤ 603072; omega) (by show (slots + 6) + 0 ≤ 7186538; omega) (Nat.le_of_ble_eq_true rfl) (fun _ w8 r2 => ?_)
    obtain ⟨rfl, I3, L3, rfl, hM3⟩ := r2
    refine JG_eq (w' := wm cy S I3 L3 R2 ++ (w9 ++ wlo cy S G)) (st' := [.int 0]) rfl rfl rfl ?_
    refine JG_istore (lv' := [(0, .ref b), (1, .ref (ka S 0 0)), (2, .ref (ka S 30 0)), (3, .ref (ka S 80 0)), (4, .ref (ka S 81 0)), (5, .int (nI z)), (6, .int 1), (7, .int 0)]) (by decide) rfl dL_law_1035 ?_
    refine JG_aload_n 2 rfl dL_law_1037 ?_
    refine JG_callX8 (As := []) (rest := []) [] (w9 ++ wlo cy S G) dL_law_1038 (c_X8_thrown hM3) rfl rfl lm_L_133 kc_yX8_thrown ki_yX8_thrown kv_yX8_thrown kd_yX8_thrown ⟨Nat.le_of_ble_eq_true rfl, Nat.le_of_ble_eq_true rfl⟩ (by show ((cells + 1) + 0) + 0 ≤ 603072; omega) (by show ((slots + 6) + 0) + 0 ≤ 7186538; omega) (Nat.le_of_ble_eq_true rfl) (fun _ w8 r4 => ?_)
    obtain ⟨rfl, I5, L5, rfl, hM5⟩ := r4
    refine JG_eq (w' := wm cy S I5 L5 R2 ++ (w9 ++ wlo cy S G)) (st' := [.int 1]) rfl rfl rfl ?_
    refine JG_iload 6 rfl dL_law_1041 ?_
    refine JG_icmp_eq 1048 (by decide) dL_law_1043 (fun c6 => ?_) (fun c6 => ?_)
    rotate_left
    · exact absurd (by decide) c6
    refine JG_iload 6 rfl dL_law_1048 ?_
    refine JG_if_ne 1065 (by decide) dL_law_1050 (fun c7 => ?_) (fun c7 => ?_)
    rotate_left
    · exact absurd c7 (by decide)
    refine JG_goto 2268 (by decide) dL_law_1065 ?_
    refine JG_sub (lv' := [(0, .ref b), (1, .ref (ka S 0 0)), (2, .ref (ka S 30 0)), (3, .ref (ka S 80 0)), (4, .ref (ka S 81 0)), (5, .int (nI z))]) [0, 1, 2, 3, 4, 5] rfl ?_
    exact kk m _ _ _ _ _ _ _ _ ⟨LP, rc, hP⟩ hI (by omega) hM5 (by omega) (by omega)

set_option maxRecDepth 20000 in
set_option maxHeartbeats 1000000 in
theorem lc_raise {cy : Nat → ClassId} {S : Nat → Nat → Nat} {I I2 : kI} {L L2 G : kL} {R R2 : kRf} {LP : List Nat} {m : Mu} {rc : Nat → Nat} {ln qu : List Nat} {lg B : Nat} {cd : Int32} {b Lx z cells slots : Nat} {xs : Nat → Int32} {p1 p2 : Int32} (hR : Rel m I L R LP rc ln qu lg) (hI : Inv m B) (hB : B + 100000 < 2 ^ 30) (hlg : lg < 2 ^ 30) (hM : MR m cd I2 L2) (hz : z + 4 < Lx) (hLx : Lx ≤ 2560) (hcl : cells + 101 ≤ 603072) (hsl : slots + 1307 ≤ 7186538) (e1 : xs (z + 1) = p1) (e2 : xs (z + 2) = p2) (kk : ∀ (m' : Mu) (B' : Nat) (w9 : va_W) (I2 : kI) (L2 : kL) (cd : Int32) (G : kL) (c' s' : Nat), (∃ LP rc, RelX cy S LP rc m' w9) → Inv m' B' → B' ≤ B + 90000 → MR m' cd I2 L2 → c' ≤ cells + 100 → s' ≤ slots + 1300 → JG RL cL_law 9 cy room_1 (ExL b Lx xs) FinL 2268 [(0, .ref b), (1, .ref (ka S 0 0)), (2, .ref (ka S 30 0)), (3, .ref (ka S 80 0)), (4, .ref (ka S 81 0)), (5, .int (nI z))] [] (wm cy S I2 L2 R2 ++ (w9 ++ wlo cy S G)) c' s') : JG RL cL_law 9 cy room_1 (ExL b Lx xs) FinL 1068 [(0, .ref b), (1, .ref (ka S 0 0)), (2, .ref (ka S 30 0)), (3, .ref (ka S 80 0)), (4, .ref (ka S 81 0)), (5, .int (nI z))] [] (wm cy S I2 L2 R2 ++ (wc cy S I L R LP ++ wlo cy S G)) cells slots := by
  have hl31 : lg < 2 ^ 31 := by omega
  obtain ⟨u, hu0⟩ : ∃ u, (p2.toUInt32 % 65536).toInt32 = u := ⟨_, rfl⟩
  rcases lt_or (mC m) p1 with ⟨i, hi, rfl⟩ | hx
  · skip
    by_cases hu : u = 100 ∨ u = 117 ∨ u = 115
    · skip
      by_cases h2 : m.1 55 i = 115
      · skip
        by_cases hlt : mRank m i < wghtF u
        · skip
          refine JG_aload_n 1 rfl dL_law_1068 ?_
          refine JG_aload_n 0 rfl dL_law_1069 ?_
          refine JG_iload 5 rfl dL_law_1070 ?_
          refine JG_iconst (v := 1) (by decide) dL_law_1072 ?_
          refine JG_iadd dL_law_1073 ?_
          refine JG_topeq (nI (z + 1)) (by exact nI_add z 1) ?_
          refine JG_sld (vp_in_nI (by omega) (by omega)) dL_law_1074 ?_
          refine JG_topeq (nI i) (by rw [nI_toNat (by omega)]; exact e1) ?_
          refine JG_aload_n 0 rfl dL_law_1075 ?_
          refine JG_iload 5 rfl dL_law_1076 ?_
          refine JG_iconst (v := 2) (by decide) dL_law_1078 ?_
          refine JG_iadd dL_law_1079 ?_
          refine JG_topeq (nI (z + 2)) (by exact nI_add z 2) ?_
          refine JG_sld (vp_in_nI (by omega) (by omega)) dL_law_1080 ?_
          refine JG_topeq p2 (by rw [nI_toNat (by omega)]; exact e2) ?_
          refine JG_i2c dL_law_1081 ?_
          refine JG_topeq u hu0 ?_
          refine JG_aload_n 3 rfl dL_law_1082 ?_
          refine JG_callH (As := [.ref (ka S 0 0), .int (nI i), .int u, .ref (ka S 80 0)]) (rest := []) (wm cy S I2 L2 R2) [] dL_law_1083 (w_raise_s  (c_X7_raise_sp hR hI (by omega) hlg hi hu h2 hlt)) (by rw [List.append_nil]) lm_L_178 kw_L_raise kiniL ks_L_raise kdL_raise ⟨Nat.le_of_ble_eq_true rfl, Nat.le_of_ble_eq_true rfl⟩ (by show cells + 0 ≤ 603072; omega) (by show slots + 0 ≤ 7186538; omega) (Nat.le_of_ble_eq_true rfl) (fun _ w8 r1 => ?_)
          obtain ⟨rfl, w9, hP, rfl⟩ := r1
          refine JG_eq (w' := wm cy S I2 L2 R2 ++ (w9 ++ wlo cy S (ku G 80 0 0 (m.1 53 i).toInt64))) (st' := [.int 0]) (by rw [List.append_nil]) rfl rfl ?_
          refine JG_istore (lv' := [(0, .ref b), (1, .ref (ka S 0 0)), (2, .ref (ka S 30 0)), (3, .ref (ka S 80 0)), (4, .ref (ka S 81 0)), (5, .int (nI z)), (6, .int 0)]) (by decide) rfl dL_law_1086 ?_
          refine JG_aload_n 2 rfl dL_law_1088 ?_
          refine JG_aload_n 0 rfl dL_law_1089 ?_
          refine JG_iload 5 rfl dL_law_1090 ?_
          refine JG_iconst (v := 1) (by decide) dL_law_1092 ?_
          refine JG_iadd dL_law_1093 ?_
          refine JG_topeq (nI (z + 1)) (by exact nI_add z 1) ?_
          refine JG_sld (vp_in_nI (by omega) (by omega)) dL_law_1094 ?_
          refine JG_topeq (nI i) (by rw [nI_toNat (by omega)]; exact e1) ?_
          refine JG_aload_n 0 rfl dL_law_1095 ?_
          refine JG_iload 5 rfl dL_law_1096 ?_
          refine JG_iconst (v := 2) (by decide) dL_law_1098 ?_
          refine JG_iadd dL_law_1099 ?_
          refine JG_topeq (nI (z + 2)) (by exact nI_add z 2) ?_
          refine JG_sld (vp_in_nI (by omega) (by omega)) dL_law_1100 ?_
          refine JG_topeq p2 (by rw [nI_toNat (by omega)]; exact e2) ?_
          refine JG_i2c dL_law_1101 ?_
          refine JG_topeq u hu0 ?_
          refine JG_callX8 (As := [.int (nI i), .int u]) (rest := []) [] (w9 ++ wlo cy S (ku G 80 0 0 (m.1 53 i).toInt64)) dL_law_1102 (c_X8_raise_s hM hR hI (by omega) hi hu (Or.inl h2) hlt) rfl rfl lm_L_181 kc_yX8_raise ki_yX8_raise kv_yX8_raise kd_yX8_raise ⟨Nat.le_of_ble_eq_true rfl, Nat.le_of_ble_eq_true rfl⟩ (by show (cells + 0) + 0 ≤ 603072; omega) (by show (slots + 0) + 0 ≤ 7186538; omega) (Nat.le_of_ble_eq_true rfl) (fun _ w8 r2 => ?_)
          obtain ⟨rfl, I3, L3, rfl, hM3⟩ := r2
          refine JG_eq (w' := wm cy S I3 L3 R2 ++ (w9 ++ wlo cy S (ku G 80 0 0 (m.1 53 i).toInt64))) (st' := [.int (m.1 53 i)]) rfl rfl rfl ?_
          refine JG_istore (lv' := [(0, .ref b), (1, .ref (ka S 0 0)), (2, .ref (ka S 30 0)), (3, .ref (ka S 80 0)), (4, .ref (ka S 81 0)), (5, .int (nI z)), (6, .int 0), (7, .int (m.1 53 i))]) (by decide) rfl dL_law_1105 ?_
          refine JG_aload_n 2 rfl dL_law_1107 ?_
          refine JG_callX8 (As := []) (rest := []) [] (w9 ++ wlo cy S (ku G 80 0 0 (m.1 53 i).toInt64)) dL_law_1108 (c_X8_thrown hM3) rfl rfl lm_L_133 kc_yX8_thrown ki_yX8_thrown kv_yX8_thrown kd_yX8_thrown ⟨Nat.le_of_ble_eq_true rfl, Nat.le_of_ble_eq_true rfl⟩ (by show ((cells + 0) + 0) + 0 ≤ 603072; omega) (by show ((slots + 0) + 0) + 0 ≤ 7186538; omega) (Nat.le_of_ble_eq_true rfl) (fun _ w8 r4 => ?_)
          obtain ⟨rfl, I5, L5, rfl, hM5⟩ := r4
          refine JG_eq (w' := wm cy S I5 L5 R2 ++ (w9 ++ wlo cy S (ku G 80 0 0 (m.1 53 i).toInt64))) (st' := [.int 0]) rfl rfl rfl ?_
          refine JG_iload 6 rfl dL_law_1111 ?_
          refine JG_icmp_eq 1118 (by decide) dL_law_1113 (fun c6 => ?_) (fun c6 => ?_)
          rotate_left
          · exact absurd (by decide) c6
          refine JG_iload 6 rfl dL_law_1118 ?_
          refine JG_if_ne 1135 (by decide) dL_law_1120 (fun c7 => ?_) (fun c7 => ?_)
          · exact absurd (by decide) c7
          refine JG_aload_n 3 rfl dL_law_1123 ?_
          refine JG_iconst (v := 0) (by decide) dL_law_1124 ?_
          refine JG_eq (w' := (wm cy S I5 L5 R2 ++ w9) ++ wlo cy S (ku G 80 0 0 (m.1 53 i).toInt64)) (List.append_assoc _ _ _).symm rfl rfl ?_
          refine JG_laldO dL_law_1125 ?_
          refine JG_eq (w' := wm cy S I5 L5 R2 ++ (w9 ++ wlo cy S (ku G 80 0 0 (m.1 53 i).toInt64))) (st' := [.long (m.1 53 i).toInt64]) (List.append_assoc _ _ _) rfl (by rw [ku_eq]) ?_
          refine JG_iload 7 rfl dL_law_1126 ?_
          refine JG_i2l dL_law_1128 ?_
          refine JG_lcmp (rfl) dL_law_1129 ?_
          refine JG_if_eq 1135 (by decide) dL_law_1130 (fun c8 => ?_) (fun c8 => ?_)
          rotate_left
          · exact absurd (by decide) c8
          refine JG_goto 2268 (by decide) dL_law_1135 ?_
          refine JG_sub (lv' := [(0, .ref b), (1, .ref (ka S 0 0)), (2, .ref (ka S 30 0)), (3, .ref (ka S 80 0)), (4, .ref (ka S 81 0)), (5, .int (nI z))]) [0, 1, 2, 3, 4, 5] rfl ?_
          exact kk (mSpeak (raM m i u)) _ _ _ _ _ _ _ _ ⟨LP, rc, hP⟩ (speak_inv (ra_inv (c := i) hI (by rcases hu with h | h | h <;> simp [h])) (by omega)) (by omega) hM5 (by omega) (by omega)
        · skip
          refine JG_aload_n 1 rfl dL_law_1068 ?_
          refine JG_aload_n 0 rfl dL_law_1069 ?_
          refine JG_iload 5 rfl dL_law_1070 ?_
          refine JG_iconst (v := 1) (by decide) dL_law_1072 ?_
          refine JG_iadd dL_law_1073 ?_
          refine JG_topeq (nI (z + 1)) (by exact nI_add z 1) ?_
          refine JG_sld (vp_in_nI (by omega) (by omega)) dL_law_1074 ?_
          refine JG_topeq (nI i) (by rw [nI_toNat (by omega)]; exact e1) ?_
          refine JG_aload_n 0 rfl dL_law_1075 ?_
          refine JG_iload 5 rfl dL_law_1076 ?_
          refine JG_iconst (v := 2) (by decide) dL_law_1078 ?_
          refine JG_iadd dL_law_1079 ?_
          refine JG_topeq (nI (z + 2)) (by exact nI_add z 2) ?_
          refine JG_sld (vp_in_nI (by omega) (by omega)) dL_law_1080 ?_
          refine JG_topeq p2 (by rw [nI_toNat (by omega)]; exact e2) ?_
          refine JG_i2c dL_law_1081 ?_
          refine JG_topeq u hu0 ?_
          refine JG_aload_n 3 rfl dL_law_1082 ?_
          refine JG_callH (As := [.ref (ka S 0 0), .int (nI i), .int u, .ref (ka S 80 0)]) (rest := []) (wm cy S I2 L2 R2) [] dL_law_1083 (w_raise_3 (c_X7_raise_l hR hI (by omega) hlg hi hu (Or.inr h2) hlt)) (by rw [List.append_nil]) lm_L_178 kw_L_raise kiniL ks_L_raise kdL_raise ⟨Nat.le_of_ble_eq_true rfl, Nat.le_of_ble_eq_true rfl⟩ (by show cells + 1 ≤ 603072; omega) (by show slots + 6 ≤ 7186538; omega) (Nat.le_of_ble_eq_true rfl) (fun _ w8 r1 => ?_)
          obtain ⟨rfl, w9, hP, rfl⟩ := r1
          refine JG_eq (w' := wm cy S I2 L2 R2 ++ (w9 ++ wlo cy S G)) (st' := [.int 3]) (by rw [List.append_nil]) rfl rfl ?_
          refine JG_istore (lv' := [(0, .ref b), (1, .ref (ka S 0 0)), (2, .ref (ka S 30 0)), (3, .ref (ka S 80 0)), (4, .ref (ka S 81 0)), (5, .int (nI z)), (6, .int 3)]) (by decide) rfl dL_law_1086 ?_
          refine JG_aload_n 2 rfl dL_law_1088 ?_
          refine JG_aload_n 0 rfl dL_law_1089 ?_
          refine JG_iload 5 rfl dL_law_1090 ?_
          refine JG_iconst (v := 1) (by decide) dL_law_1092 ?_
          refine JG_iadd dL_law_1093 ?_
          refine JG_topeq (nI (z + 1)) (by exact nI_add z 1) ?_
          refine JG_sld (vp_in_nI (by omega) (by omega)) dL_law_1094 ?_
          refine JG_topeq (nI i) (by rw [nI_toNat (by omega)]; exact e1) ?_
          refine JG_aload_n 0 rfl dL_law_1095 ?_
          refine JG_iload 5 rfl dL_law_1096 ?_
          refine JG_iconst (v := 2) (by decide) dL_law_1098 ?_
          refine JG_iadd dL_law_1099 ?_
          refine JG_topeq (nI (z + 2)) (by exact nI_add z 2) ?_
          refine JG_sld (vp_in_nI (by omega) (by omega)) dL_law_1100 ?_
          refine JG_topeq p2 (by rw [nI_toNat (by omega)]; exact e2) ?_
          refine JG_i2c dL_law_1101 ?_
          refine JG_topeq u hu0 ?_
          refine JG_callX8 (As := [.int (nI i), .int u]) (rest := []) [] (w9 ++ wlo cy S G) dL_law_1102 (c_X8_raise_l hM hR hI (by omega) hi hu (Or.inr h2) hlt) rfl rfl lm_L_181 kc_yX8_raise ki_yX8_raise kv_yX8_raise kd_yX8_raise ⟨Nat.le_of_ble_eq_true rfl, Nat.le_of_ble_eq_true rfl⟩ (by show (cells + 1) + 0 ≤ 603072; omega) (by show (slots + 6) + 0 ≤ 7186538; omega) (Nat.le_of_ble_eq_true rfl) (fun _ w8 r2 => ?_)
          obtain ⟨rfl, I3, L3, rfl, hM3⟩ := r2
          refine JG_eq (w' := wm cy S I3 L3 R2 ++ (w9 ++ wlo cy S G)) (st' := [.int 97]) rfl rfl rfl ?_
          refine JG_istore (lv' := [(0, .ref b), (1, .ref (ka S 0 0)), (2, .ref (ka S 30 0)), (3, .ref (ka S 80 0)), (4, .ref (ka S 81 0)), (5, .int (nI z)), (6, .int 3), (7, .int 97)]) (by decide) rfl dL_law_1105 ?_
          refine JG_aload_n 2 rfl dL_law_1107 ?_
          refine JG_callX8 (As := []) (rest := []) [] (w9 ++ wlo cy S G) dL_law_1108 (c_X8_thrown hM3) rfl rfl lm_L_133 kc_yX8_thrown ki_yX8_thrown kv_yX8_thrown kd_yX8_thrown ⟨Nat.le_of_ble_eq_true rfl, Nat.le_of_ble_eq_true rfl⟩ (by show ((cells + 1) + 0) + 0 ≤ 603072; omega) (by show ((slots + 6) + 0) + 0 ≤ 7186538; omega) (Nat.le_of_ble_eq_true rfl) (fun _ w8 r4 => ?_)
          obtain ⟨rfl, I5, L5, rfl, hM5⟩ := r4
          refine JG_eq (w' := wm cy S I5 L5 R2 ++ (w9 ++ wlo cy S G)) (st' := [.int 3]) rfl rfl rfl ?_
          refine JG_iload 6 rfl dL_law_1111 ?_
          refine JG_icmp_eq 1118 (by decide) dL_law_1113 (fun c6 => ?_) (fun c6 => ?_)
          rotate_left
          · exact absurd (by decide) c6
          refine JG_iload 6 rfl dL_law_1118 ?_
          refine JG_if_ne 1135 (by decide) dL_law_1120 (fun c7 => ?_) (fun c7 => ?_)
          rotate_left
          · exact absurd c7 (by decide)
          refine JG_goto 2268 (by decide) dL_law_1135 ?_
          refine JG_sub (lv' := [(0, .ref b), (1, .ref (ka S 0 0)), (2, .ref (ka S 30 0)), (3, .ref (ka S 80 0)), (4, .ref (ka S 81 0)), (5, .int (nI z))]) [0, 1, 2, 3, 4, 5] rfl ?_
          exact kk m _ _ _ _ _ _ _ _ ⟨LP, rc, hP⟩ hI (by omega) hM5 (by omega) (by omega)
      · skip
        by_cases h1 : m.1 55 i = 119
        · skip
          by_cases hlt : mRank m i < wghtF u
          · skip
            refine JG_aload_n 1 rfl dL_law_1068 ?_
            refine JG_aload_n 0 rfl dL_law_1069 ?_
            refine JG_iload 5 rfl dL_law_1070 ?_
            refine JG_iconst (v := 1) (by decide) dL_law_1072 ?_
            refine JG_iadd dL_law_1073 ?_
            refine JG_topeq (nI (z + 1)) (by exact nI_add z 1) ?_
            refine JG_sld (vp_in_nI (by omega) (by omega)) dL_law_1074 ?_
            refine JG_topeq (nI i) (by rw [nI_toNat (by omega)]; exact e1) ?_
            refine JG_aload_n 0 rfl dL_law_1075 ?_
            refine JG_iload 5 rfl dL_law_1076 ?_
            refine JG_iconst (v := 2) (by decide) dL_law_1078 ?_
            refine JG_iadd dL_law_1079 ?_
            refine JG_topeq (nI (z + 2)) (by exact nI_add z 2) ?_
            refine JG_sld (vp_in_nI (by omega) (by omega)) dL_law_1080 ?_
            refine JG_topeq p2 (by rw [nI_toNat (by omega)]; exact e2) ?_
            refine JG_i2c dL_law_1081 ?_
            refine JG_topeq u hu0 ?_
            refine JG_aload_n 3 rfl dL_law_1082 ?_
            refine JG_callH (As := [.ref (ka S 0 0), .int (nI i), .int u, .ref (ka S 80 0)]) (rest := []) (wm cy S I2 L2 R2) [] dL_law_1083 (w_raise_s  (c_X7_raise_w hR hI (by omega) hlg hi hu h1 hlt)) (by rw [List.append_nil]) lm_L_178 kw_L_raise kiniL ks_L_raise kdL_raise ⟨Nat.le_of_ble_eq_true rfl, Nat.le_of_ble_eq_true rfl⟩ (by show cells + 0 ≤ 603072; omega) (by show slots + 0 ≤ 7186538; omega) (Nat.le_of_ble_eq_true rfl) (fun _ w8 r1 => ?_)
            obtain ⟨rfl, w9, hP, rfl⟩ := r1
            refine JG_eq (w' := wm cy S I2 L2 R2 ++ (w9 ++ wlo cy S (ku G 80 0 0 (m.1 53 i).toInt64))) (st' := [.int 0]) (by rw [List.append_nil]) rfl rfl ?_
            refine JG_istore (lv' := [(0, .ref b), (1, .ref (ka S 0 0)), (2, .ref (ka S 30 0)), (3, .ref (ka S 80 0)), (4, .ref (ka S 81 0)), (5, .int (nI z)), (6, .int 0)]) (by decide) rfl dL_law_1086 ?_
            refine JG_aload_n 2 rfl dL_law_1088 ?_
            refine JG_aload_n 0 rfl dL_law_1089 ?_
            refine JG_iload 5 rfl dL_law_1090 ?_
            refine JG_iconst (v := 1) (by decide) dL_law_1092 ?_
            refine JG_iadd dL_law_1093 ?_
            refine JG_topeq (nI (z + 1)) (by exact nI_add z 1) ?_
            refine JG_sld (vp_in_nI (by omega) (by omega)) dL_law_1094 ?_
            refine JG_topeq (nI i) (by rw [nI_toNat (by omega)]; exact e1) ?_
            refine JG_aload_n 0 rfl dL_law_1095 ?_
            refine JG_iload 5 rfl dL_law_1096 ?_
            refine JG_iconst (v := 2) (by decide) dL_law_1098 ?_
            refine JG_iadd dL_law_1099 ?_
            refine JG_topeq (nI (z + 2)) (by exact nI_add z 2) ?_
            refine JG_sld (vp_in_nI (by omega) (by omega)) dL_law_1100 ?_
            refine JG_topeq p2 (by rw [nI_toNat (by omega)]; exact e2) ?_
            refine JG_i2c dL_law_1101 ?_
            refine JG_topeq u hu0 ?_
            refine JG_callX8 (As := [.int (nI i), .int u]) (rest := []) [] (w9 ++ wlo cy S (ku G 80 0 0 (m.1 53 i).toInt64)) dL_law_1102 (c_X8_raise_s hM hR hI (by omega) hi hu (Or.inr h1) hlt) rfl rfl lm_L_181 kc_yX8_raise ki_yX8_raise kv_yX8_raise kd_yX8_raise ⟨Nat.le_of_ble_eq_true rfl, Nat.le_of_ble_eq_true rfl⟩ (by show (cells + 0) + 0 ≤ 603072; omega) (by show (slots + 0) + 0 ≤ 7186538; omega) (Nat.le_of_ble_eq_true rfl) (fun _ w8 r2 => ?_)
            obtain ⟨rfl, I3, L3, rfl, hM3⟩ := r2
            refine JG_eq (w' := wm cy S I3 L3 R2 ++ (w9 ++ wlo cy S (ku G 80 0 0 (m.1 53 i).toInt64))) (st' := [.int (m.1 53 i)]) rfl rfl rfl ?_
            refine JG_istore (lv' := [(0, .ref b), (1, .ref (ka S 0 0)), (2, .ref (ka S 30 0)), (3, .ref (ka S 80 0)), (4, .ref (ka S 81 0)), (5, .int (nI z)), (6, .int 0), (7, .int (m.1 53 i))]) (by decide) rfl dL_law_1105 ?_
            refine JG_aload_n 2 rfl dL_law_1107 ?_
            refine JG_callX8 (As := []) (rest := []) [] (w9 ++ wlo cy S (ku G 80 0 0 (m.1 53 i).toInt64)) dL_law_1108 (c_X8_thrown hM3) rfl rfl lm_L_133 kc_yX8_thrown ki_yX8_thrown kv_yX8_thrown kd_yX8_thrown ⟨Nat.le_of_ble_eq_true rfl, Nat.le_of_ble_eq_true rfl⟩ (by show ((cells + 0) + 0) + 0 ≤ 603072; omega) (by show ((slots + 0) + 0) + 0 ≤ 7186538; omega) (Nat.le_of_ble_eq_true rfl) (fun _ w8 r4 => ?_)
            obtain ⟨rfl, I5, L5, rfl, hM5⟩ := r4
            refine JG_eq (w' := wm cy S I5 L5 R2 ++ (w9 ++ wlo cy S (ku G 80 0 0 (m.1 53 i).toInt64))) (st' := [.int 0]) rfl rfl rfl ?_
            refine JG_iload 6 rfl dL_law_1111 ?_
            refine JG_icmp_eq 1118 (by decide) dL_law_1113 (fun c6 => ?_) (fun c6 => ?_)
            rotate_left
            · exact absurd (by decide) c6
            refine JG_iload 6 rfl dL_law_1118 ?_
            refine JG_if_ne 1135 (by decide) dL_law_1120 (fun c7 => ?_) (fun c7 => ?_)
            · exact absurd (by decide) c7
            refine JG_aload_n 3 rfl dL_law_1123 ?_
            refine JG_iconst (v := 0) (by decide) dL_law_1124 ?_
            refine JG_eq (w' := (wm cy S I5 L5 R2 ++ w9) ++ wlo cy S (ku G 80 0 0 (m.1 53 i).toInt64)) (List.append_assoc _ _ _).symm rfl rfl ?_
            refine JG_laldO dL_law_1125 ?_
            refine JG_eq (w' := wm cy S I5 L5 R2 ++ (w9 ++ wlo cy S (ku G 80 0 0 (m.1 53 i).toInt64))) (st' := [.long (m.1 53 i).toInt64]) (List.append_assoc _ _ _) rfl (by rw [ku_eq]) ?_
            refine JG_iload 7 rfl dL_law_1126 ?_
            refine JG_i2l dL_law_1128 ?_
            refine JG_lcmp (rfl) dL_law_1129 ?_
            refine JG_if_eq 1135 (by decide) dL_law_1130 (fun c8 => ?_) (fun c8 => ?_)
            rotate_left
            · exact absurd (by decide) c8
            refine JG_goto 2268 (by decide) dL_law_1135 ?_
            refine JG_sub (lv' := [(0, .ref b), (1, .ref (ka S 0 0)), (2, .ref (ka S 30 0)), (3, .ref (ka S 80 0)), (4, .ref (ka S 81 0)), (5, .int (nI z))]) [0, 1, 2, 3, 4, 5] rfl ?_
            exact kk (mSpeak (raM m i u)) _ _ _ _ _ _ _ _ ⟨LP, rc, hP⟩ (speak_inv (ra_inv (c := i) hI (by rcases hu with h | h | h <;> simp [h])) (by omega)) (by omega) hM5 (by omega) (by omega)
          · skip
            refine JG_aload_n 1 rfl dL_law_1068 ?_
            refine JG_aload_n 0 rfl dL_law_1069 ?_
            refine JG_iload 5 rfl dL_law_1070 ?_
            refine JG_iconst (v := 1) (by decide) dL_law_1072 ?_
            refine JG_iadd dL_law_1073 ?_
            refine JG_topeq (nI (z + 1)) (by exact nI_add z 1) ?_
            refine JG_sld (vp_in_nI (by omega) (by omega)) dL_law_1074 ?_
            refine JG_topeq (nI i) (by rw [nI_toNat (by omega)]; exact e1) ?_
            refine JG_aload_n 0 rfl dL_law_1075 ?_
            refine JG_iload 5 rfl dL_law_1076 ?_
            refine JG_iconst (v := 2) (by decide) dL_law_1078 ?_
            refine JG_iadd dL_law_1079 ?_
            refine JG_topeq (nI (z + 2)) (by exact nI_add z 2) ?_
            refine JG_sld (vp_in_nI (by omega) (by omega)) dL_law_1080 ?_
            refine JG_topeq p2 (by rw [nI_toNat (by omega)]; exact e2) ?_
            refine JG_i2c dL_law_1081 ?_
            refine JG_topeq u hu0 ?_
            refine JG_aload_n 3 rfl dL_law_1082 ?_
            refine JG_callH (As := [.ref (ka S 0 0), .int (nI i), .int u, .ref (ka S 80 0)]) (rest := []) (wm cy S I2 L2 R2) [] dL_law_1083 (w_raise_3 (c_X7_raise_l hR hI (by omega) hlg hi hu (Or.inl h1) hlt)) (by rw [List.append_nil]) lm_L_178 kw_L_raise kiniL ks_L_raise kdL_raise ⟨Nat.le_of_ble_eq_true rfl, Nat.le_of_ble_eq_true rfl⟩ (by show cells + 1 ≤ 603072; omega) (by show slots + 6 ≤ 7186538; omega) (Nat.le_of_ble_eq_true rfl) (fun _ w8 r1 => ?_)
            obtain ⟨rfl, w9, hP, rfl⟩ := r1
            refine JG_eq (w' := wm cy S I2 L2 R2 ++ (w9 ++ wlo cy S G)) (st' := [.int 3]) (by rw [List.append_nil]) rfl rfl ?_
            refine JG_istore (lv' := [(0, .ref b), (1, .ref (ka S 0 0)), (2, .ref (ka S 30 0)), (3, .ref (ka S 80 0)), (4, .ref (ka S 81 0)), (5, .int (nI z)), (6, .int 3)]) (by decide) rfl dL_law_1086 ?_
            refine JG_aload_n 2 rfl dL_law_1088 ?_
            refine JG_aload_n 0 rfl dL_law_1089 ?_
            refine JG_iload 5 rfl dL_law_1090 ?_
            refine JG_iconst (v := 1) (by decide) dL_law_1092 ?_
            refine JG_iadd dL_law_1093 ?_
            refine JG_topeq (nI (z + 1)) (by exact nI_add z 1) ?_
            refine JG_sld (vp_in_nI (by omega) (by omega)) dL_law_1094 ?_
            refine JG_topeq (nI i) (by rw [nI_toNat (by omega)]; exact e1) ?_
            refine JG_aload_n 0 rfl dL_law_1095 ?_
            refine JG_iload 5 rfl dL_law_1096 ?_
            refine JG_iconst (v := 2) (by decide) dL_law_1098 ?_
            refine JG_iadd dL_law_1099 ?_
            refine JG_topeq (nI (z + 2)) (by exact nI_add z 2) ?_
            refine JG_sld (vp_in_nI (by omega) (by omega)) dL_law_1100 ?_
            refine JG_topeq p2 (by rw [nI_toNat (by omega)]; exact e2) ?_
            refine JG_i2c dL_law_1101 ?_
            refine JG_topeq u hu0 ?_
            refine JG_callX8 (As := [.int (nI i), .int u]) (rest := []) [] (w9 ++ wlo cy S G) dL_law_1102 (c_X8_raise_l hM hR hI (by omega) hi hu (Or.inl h1) hlt) rfl rfl lm_L_181 kc_yX8_raise ki_yX8_raise kv_yX8_raise kd_yX8_raise ⟨Nat.le_of_ble_eq_true rfl, Nat.le_of_ble_eq_true rfl⟩ (by show (cells + 1) + 0 ≤ 603072; omega) (by show (slots + 6) + 0 ≤ 7186538; omega) (Nat.le_of_ble_eq_true rfl) (fun _ w8 r2 => ?_)
            obtain ⟨rfl, I3, L3, rfl, hM3⟩ := r2
            refine JG_eq (w' := wm cy S I3 L3 R2 ++ (w9 ++ wlo cy S G)) (st' := [.int 97]) rfl rfl rfl ?_
            refine JG_istore (lv' := [(0, .ref b), (1, .ref (ka S 0 0)), (2, .ref (ka S 30 0)), (3, .ref (ka S 80 0)), (4, .ref (ka S 81 0)), (5, .int (nI z)), (6, .int 3), (7, .int 97)]) (by decide) rfl dL_law_1105 ?_
            refine JG_aload_n 2 rfl dL_law_1107 ?_
            refine JG_callX8 (As := []) (rest := []) [] (w9 ++ wlo cy S G) dL_law_1108 (c_X8_thrown hM3) rfl rfl lm_L_133 kc_yX8_thrown ki_yX8_thrown kv_yX8_thrown kd_yX8_thrown ⟨Nat.le_of_ble_eq_true rfl, Nat.le_of_ble_eq_true rfl⟩ (by show ((cells + 1) + 0) + 0 ≤ 603072; omega) (by show ((slots + 6) + 0) + 0 ≤ 7186538; omega) (Nat.le_of_ble_eq_true rfl) (fun _ w8 r4 => ?_)
            obtain ⟨rfl, I5, L5, rfl, hM5⟩ := r4
            refine JG_eq (w' := wm cy S I5 L5 R2 ++ (w9 ++ wlo cy S G)) (st' := [.int 3]) rfl rfl rfl ?_
            refine JG_iload 6 rfl dL_law_1111 ?_
            refine JG_icmp_eq 1118 (by decide) dL_law_1113 (fun c6 => ?_) (fun c6 => ?_)
            rotate_left
            · exact absurd (by decide) c6
            refine JG_iload 6 rfl dL_law_1118 ?_
            refine JG_if_ne 1135 (by decide) dL_law_1120 (fun c7 => ?_) (fun c7 => ?_)
            rotate_left
            · exact absurd c7 (by decide)
            refine JG_goto 2268 (by decide) dL_law_1135 ?_
            refine JG_sub (lv' := [(0, .ref b), (1, .ref (ka S 0 0)), (2, .ref (ka S 30 0)), (3, .ref (ka S 80 0)), (4, .ref (ka S 81 0)), (5, .int (nI z))]) [0, 1, 2, 3, 4, 5] rfl ?_
            exact kk m _ _ _ _ _ _ _ _ ⟨LP, rc, hP⟩ hI (by omega) hM5 (by omega) (by omega)
        · skip
          refine JG_aload_n 1 rfl dL_law_1068 ?_
          refine JG_aload_n 0 rfl dL_law_1069 ?_
          refine JG_iload 5 rfl dL_law_1070 ?_
          refine JG_iconst (v := 1) (by decide) dL_law_1072 ?_
          refine JG_iadd dL_law_1073 ?_
          refine JG_topeq (nI (z + 1)) (by exact nI_add z 1) ?_
          refine JG_sld (vp_in_nI (by omega) (by omega)) dL_law_1074 ?_
          refine JG_topeq (nI i) (by rw [nI_toNat (by omega)]; exact e1) ?_
          refine JG_aload_n 0 rfl dL_law_1075 ?_
          refine JG_iload 5 rfl dL_law_1076 ?_
          refine JG_iconst (v := 2) (by decide) dL_law_1078 ?_
          refine JG_iadd dL_law_1079 ?_
          refine JG_topeq (nI (z + 2)) (by exact nI_add z 2) ?_
          refine JG_sld (vp_in_nI (by omega) (by omega)) dL_law_1080 ?_
          refine JG_topeq p2 (by rw [nI_toNat (by omega)]; exact e2) ?_
          refine JG_i2c dL_law_1081 ?_
          refine JG_topeq u hu0 ?_
          refine JG_aload_n 3 rfl dL_law_1082 ?_
          refine JG_callH (As := [.ref (ka S 0 0), .int (nI i), .int u, .ref (ka S 80 0)]) (rest := []) (wm cy S I2 L2 R2) [] dL_law_1083 (w_raise_3 (c_X7_raise_o hR hI (by omega) hlg hi hu h1 h2)) (by rw [List.append_nil]) lm_L_178 kw_L_raise kiniL ks_L_raise kdL_raise ⟨Nat.le_of_ble_eq_true rfl, Nat.le_of_ble_eq_true rfl⟩ (by show cells + 1 ≤ 603072; omega) (by show slots + 6 ≤ 7186538; omega) (Nat.le_of_ble_eq_true rfl) (fun _ w8 r1 => ?_)
          obtain ⟨rfl, w9, hP, rfl⟩ := r1
          refine JG_eq (w' := wm cy S I2 L2 R2 ++ (w9 ++ wlo cy S G)) (st' := [.int 3]) (by rw [List.append_nil]) rfl rfl ?_
          refine JG_istore (lv' := [(0, .ref b), (1, .ref (ka S 0 0)), (2, .ref (ka S 30 0)), (3, .ref (ka S 80 0)), (4, .ref (ka S 81 0)), (5, .int (nI z)), (6, .int 3)]) (by decide) rfl dL_law_1086 ?_
          refine JG_aload_n 2 rfl dL_law_1088 ?_
          refine JG_aload_n 0 rfl dL_law_1089 ?_
          refine JG_iload 5 rfl dL_law_1090 ?_
          refine JG_iconst (v := 1) (by decide) dL_law_1092 ?_
          refine JG_iadd dL_law_1093 ?_
          refine JG_topeq (nI (z + 1)) (by exact nI_add z 1) ?_
          refine JG_sld (vp_in_nI (by omega) (by omega)) dL_law_1094 ?_
          refine JG_topeq (nI i) (by rw [nI_toNat (by omega)]; exact e1) ?_
          refine JG_aload_n 0 rfl dL_law_1095 ?_
          refine JG_iload 5 rfl dL_law_1096 ?_
          refine JG_iconst (v := 2) (by decide) dL_law_1098 ?_
          refine JG_iadd dL_law_1099 ?_
          refine JG_topeq (nI (z + 2)) (by exact nI_add z 2) ?_
          refine JG_sld (vp_in_nI (by omega) (by omega)) dL_law_1100 ?_
          refine JG_topeq p2 (by rw [nI_toNat (by omega)]; exact e2) ?_
          refine JG_i2c dL_law_1101 ?_
          refine JG_topeq u hu0 ?_
          refine JG_callX8 (As := [.int (nI i), .int u]) (rest := []) [] (w9 ++ wlo cy S G) dL_law_1102 (c_X8_raise_o hM hR hI (by omega) hi hu h1 h2) rfl rfl lm_L_181 kc_yX8_raise ki_yX8_raise kv_yX8_raise kd_yX8_raise ⟨Nat.le_of_ble_eq_true rfl, Nat.le_of_ble_eq_true rfl⟩ (by show (cells + 1) + 0 ≤ 603072; omega) (by show (slots + 6) + 0 ≤ 7186538; omega) (Nat.le_of_ble_eq_true rfl) (fun _ w8 r2 => ?_)
          obtain ⟨rfl, I3, L3, rfl, hM3⟩ := r2
          refine JG_eq (w' := wm cy S I3 L3 R2 ++ (w9 ++ wlo cy S G)) (st' := [.int 97]) rfl rfl rfl ?_
          refine JG_istore (lv' := [(0, .ref b), (1, .ref (ka S 0 0)), (2, .ref (ka S 30 0)), (3, .ref (ka S 80 0)), (4, .ref (ka S 81 0)), (5, .int (nI z)), (6, .int 3), (7, .int 97)]) (by decide) rfl dL_law_1105 ?_
          refine JG_aload_n 2 rfl dL_law_1107 ?_
          refine JG_callX8 (As := []) (rest := []) [] (w9 ++ wlo cy S G) dL_law_1108 (c_X8_thrown hM3) rfl rfl lm_L_133 kc_yX8_thrown ki_yX8_thrown kv_yX8_thrown kd_yX8_thrown ⟨Nat.le_of_ble_eq_true rfl, Nat.le_of_ble_eq_true rfl⟩ (by show ((cells + 1) + 0) + 0 ≤ 603072; omega) (by show ((slots + 6) + 0) + 0 ≤ 7186538; omega) (Nat.le_of_ble_eq_true rfl) (fun _ w8 r4 => ?_)
          obtain ⟨rfl, I5, L5, rfl, hM5⟩ := r4
          refine JG_eq (w' := wm cy S I5 L5 R2 ++ (w9 ++ wlo cy S G)) (st' := [.int 3]) rfl rfl rfl ?_
          refine JG_iload 6 rfl dL_law_1111 ?_
          refine JG_icmp_eq 1118 (by decide) dL_law_1113 (fun c6 => ?_) (fun c6 => ?_)
          rotate_left
          · exact absurd (by decide) c6
          refine JG_iload 6 rfl dL_law_1118 ?_
          refine JG_if_ne 1135 (by decide) dL_law_1120 (fun c7 => ?_) (fun c7 => ?_)
          rotate_left
          · exact absurd c7 (by decide)
          refine JG_goto 2268 (by decide) dL_law_1135 ?_
          refine JG_sub (lv' := [(0, .ref b), (1, .ref (ka S 0 0)), (2, .ref (ka S 30 0)), (3, .ref (ka S 80 0)), (4, .ref (ka S 81 0)), (5, .int (nI z))]) [0, 1, 2, 3, 4, 5] rfl ?_
          exact kk m _ _ _ _ _ _ _ _ ⟨LP, rc, hP⟩ hI (by omega) hM5 (by omega) (by omega)
    · skip
      refine JG_aload_n 1 rfl dL_law_1068 ?_
      refine JG_aload_n 0 rfl dL_law_1069 ?_
      refine JG_iload 5 rfl dL_law_1070 ?_
      refine JG_iconst (v := 1) (by decide) dL_law_1072 ?_
      refine JG_iadd dL_law_1073 ?_
      refine JG_topeq (nI (z + 1)) (by exact nI_add z 1) ?_
      refine JG_sld (vp_in_nI (by omega) (by omega)) dL_law_1074 ?_
      refine JG_topeq (nI i) (by rw [nI_toNat (by omega)]; exact e1) ?_
      refine JG_aload_n 0 rfl dL_law_1075 ?_
      refine JG_iload 5 rfl dL_law_1076 ?_
      refine JG_iconst (v := 2) (by decide) dL_law_1078 ?_
      refine JG_iadd dL_law_1079 ?_
      refine JG_topeq (nI (z + 2)) (by exact nI_add z 2) ?_
      refine JG_sld (vp_in_nI (by omega) (by omega)) dL_law_1080 ?_
      refine JG_topeq p2 (by rw [nI_toNat (by omega)]; exact e2) ?_
      refine JG_i2c dL_law_1081 ?_
      refine JG_topeq u hu0 ?_
      refine JG_aload_n 3 rfl dL_law_1082 ?_
      refine JG_callH (As := [.ref (ka S 0 0), .int (nI i), .int u, .ref (ka S 80 0)]) (rest := []) (wm cy S I2 L2 R2) [] dL_law_1083 (w_raise_2 (c_X7_raise_u hR hI (by omega) hlg hi hu)) (by rw [List.append_nil]) lm_L_178 kw_L_raise kiniL ks_L_raise kdL_raise ⟨Nat.le_of_ble_eq_true rfl, Nat.le_of_ble_eq_true rfl⟩ (by show cells + 1 ≤ 603072; omega) (by show slots + 6 ≤ 7186538; omega) (Nat.le_of_ble_eq_true rfl) (fun _ w8 r1 => ?_)
      obtain ⟨rfl, w9, hP, rfl⟩ := r1
      refine JG_eq (w' := wm cy S I2 L2 R2 ++ (w9 ++ wlo cy S G)) (st' := [.int 2]) (by rw [List.append_nil]) rfl rfl ?_
      refine JG_istore (lv' := [(0, .ref b), (1, .ref (ka S 0 0)), (2, .ref (ka S 30 0)), (3, .ref (ka S 80 0)), (4, .ref (ka S 81 0)), (5, .int (nI z)), (6, .int 2)]) (by decide) rfl dL_law_1086 ?_
      refine JG_aload_n 2 rfl dL_law_1088 ?_
      refine JG_aload_n 0 rfl dL_law_1089 ?_
      refine JG_iload 5 rfl dL_law_1090 ?_
      refine JG_iconst (v := 1) (by decide) dL_law_1092 ?_
      refine JG_iadd dL_law_1093 ?_
      refine JG_topeq (nI (z + 1)) (by exact nI_add z 1) ?_
      refine JG_sld (vp_in_nI (by omega) (by omega)) dL_law_1094 ?_
      refine JG_topeq (nI i) (by rw [nI_toNat (by omega)]; exact e1) ?_
      refine JG_aload_n 0 rfl dL_law_1095 ?_
      refine JG_iload 5 rfl dL_law_1096 ?_
      refine JG_iconst (v := 2) (by decide) dL_law_1098 ?_
      refine JG_iadd dL_law_1099 ?_
      refine JG_topeq (nI (z + 2)) (by exact nI_add z 2) ?_
      refine JG_sld (vp_in_nI (by omega) (by omega)) dL_law_1100 ?_
      refine JG_topeq p2 (by rw [nI_toNat (by omega)]; exact e2) ?_
      refine JG_i2c dL_law_1101 ?_
      refine JG_topeq u hu0 ?_
      refine JG_callX8 (As := [.int (nI i), .int u]) (rest := []) [] (w9 ++ wlo cy S G) dL_law_1102 (c_X8_raise_u hM hR hI (by omega) hi hu) rfl rfl lm_L_181 kc_yX8_raise ki_yX8_raise kv_yX8_raise kd_yX8_raise ⟨Nat.le_of_ble_eq_true rfl, Nat.le_of_ble_eq_true rfl⟩ (by show (cells + 1) + 0 ≤ 603072; omega) (by show (slots + 6) + 0 ≤ 7186538; omega) (Nat.le_of_ble_eq_true rfl) (fun _ w8 r2 => ?_)
      obtain ⟨rfl, I3, L3, rfl, hM3⟩ := r2
      refine JG_eq (w' := wm cy S I3 L3 R2 ++ (w9 ++ wlo cy S G)) (st' := [.int 97]) rfl rfl rfl ?_
      refine JG_istore (lv' := [(0, .ref b), (1, .ref (ka S 0 0)), (2, .ref (ka S 30 0)), (3, .ref (ka S 80 0)), (4, .ref (ka S 81 0)), (5, .int (nI z)), (6, .int 2), (7, .int 97)]) (by decide) rfl dL_law_1105 ?_
      refine JG_aload_n 2 rfl dL_law_1107 ?_
      refine JG_callX8 (As := []) (rest := []) [] (w9 ++ wlo cy S G) dL_law_1108 (c_X8_thrown hM3) rfl rfl lm_L_133 kc_yX8_thrown ki_yX8_thrown kv_yX8_thrown kd_yX8_thrown ⟨Nat.le_of_ble_eq_true rfl, Nat.le_of_ble_eq_true rfl⟩ (by show ((cells + 1) + 0) + 0 ≤ 603072; omega) (by show ((slots + 6) + 0) + 0 ≤ 7186538; omega) (Nat.le_of_ble_eq_true rfl) (fun _ w8 r4 => ?_)
      obtain ⟨rfl, I5, L5, rfl, hM5⟩ := r4
      refine JG_eq (w' := wm cy S I5 L5 R2 ++ (w9 ++ wlo cy S G)) (st' := [.int 2]) rfl rfl rfl ?_
      refine JG_iload 6 rfl dL_law_1111 ?_
      refine JG_icmp_eq 1118 (by decide) dL_law_1113 (fun c6 => ?_) (fun c6 => ?_)
      rotate_left
      · exact absurd (by decide) c6
      refine JG_iload 6 rfl dL_law_1118 ?_
      refine JG_if_ne 1135 (by decide) dL_law_1120 (fun c7 => ?_) (fun c7 => ?_)
      rotate_left
      · exact absurd c7 (by decide)
      refine JG_goto 2268 (by decide) dL_law_1135 ?_
      refine JG_sub (lv' := [(0, .ref b), (1, .ref (ka S 0 0)), (2, .ref (ka S 30 0)), (3, .ref (ka S 80 0)), (4, .ref (ka S 81 0)), (5, .int (nI z))]) [0, 1, 2, 3, 4, 5] rfl ?_
      exact kk m _ _ _ _ _ _ _ _ ⟨LP, rc, hP⟩ hI (by omega) hM5 (by omega) (by omega)
  · skip
    refine JG_aload_n 1 rfl dL_law_1068 ?_
    refine JG_aload_n 0 rfl dL_law_1069 ?_
    refine JG_iload 5 rfl dL_law_1070 ?_
    refine JG_iconst (v := 1) (by decide) dL_law_1072 ?_
    refine JG_iadd dL_law_1073 ?_
    refine JG_topeq (nI (z + 1)) (by exact nI_add z 1) ?_
    refine JG_sld (vp_in_nI (by omega) (by omega)) dL_law_1074 ?_
    refine JG_topeq p1 (by rw [nI_toNat (by omega)]; exact e1) ?_
    refine JG_aload_n 0 rfl dL_law_1075 ?_
    refine JG_iload 5 rfl dL_law_1076 ?_
    refine JG_iconst (v := 2) (by decide) dL_law_1078 ?_
    refine JG_iadd dL_law_1079 ?_
    refine JG_topeq (nI (z + 2)) (by exact nI_add z 2) ?_
    refine JG_sld (vp_in_nI (by omega) (by omega)) dL_law_1080 ?_
    refine JG_topeq p2 (by rw [nI_toNat (by omega)]; exact e2) ?_
    refine JG_i2c dL_law_1081 ?_
    refine JG_topeq u hu0 ?_
    refine JG_aload_n 3 rfl dL_law_1082 ?_
    refine JG_callH (As := [.ref (ka S 0 0), .int p1, .int u, .ref (ka S 80 0)]) (rest := []) (wm cy S I2 L2 R2) [] dL_law_1083 (w_raise_1 (c_X7_raise_x hR hI (by omega) hlg hx)) (by rw [List.append_nil]) lm_L_178 kw_L_raise kiniL ks_L_raise kdL_raise ⟨Nat.le_of_ble_eq_true rfl, Nat.le_of_ble_eq_true rfl⟩ (by show cells + 1 ≤ 603072; omega) (by show slots + 6 ≤ 7186538; omega) (Nat.le_of_ble_eq_true rfl) (fun _ w8 r1 => ?_)
    obtain ⟨rfl, w9, hP, rfl⟩ := r1
    refine JG_eq (w' := wm cy S I2 L2 R2 ++ (w9 ++ wlo cy S G)) (st' := [.int 1]) (by rw [List.append_nil]) rfl rfl ?_
    refine JG_istore (lv' := [(0, .ref b), (1, .ref (ka S 0 0)), (2, .ref (ka S 30 0)), (3, .ref (ka S 80 0)), (4, .ref (ka S 81 0)), (5, .int (nI z)), (6, .int 1)]) (by decide) rfl dL_law_1086 ?_
    refine JG_aload_n 2 rfl dL_law_1088 ?_
    refine JG_aload_n 0 rfl dL_law_1089 ?_
    refine JG_iload 5 rfl dL_law_1090 ?_
    refine JG_iconst (v := 1) (by decide) dL_law_1092 ?_
    refine JG_iadd dL_law_1093 ?_
    refine JG_topeq (nI (z + 1)) (by exact nI_add z 1) ?_
    refine JG_sld (vp_in_nI (by omega) (by omega)) dL_law_1094 ?_
    refine JG_topeq p1 (by rw [nI_toNat (by omega)]; exact e1) ?_
    refine JG_aload_n 0 rfl dL_law_1095 ?_
    refine JG_iload 5 rfl dL_law_1096 ?_
    refine JG_iconst (v := 2) (by decide) dL_law_1098 ?_
    refine JG_iadd dL_law_1099 ?_
    refine JG_topeq (nI (z + 2)) (by exact nI_add z 2) ?_
    refine JG_sld (vp_in_nI (by omega) (by omega)) dL_law_1100 ?_
    refine JG_topeq p2 (by rw [nI_toNat (by omega)]; exact e2) ?_
    refine JG_i2c dL_law_1101 ?_
    refine JG_topeq u hu0 ?_
    refine JG_callX8 (As := [.int p1, .int u]) (rest := []) [] (w9 ++ wlo cy S G) dL_law_1102 (c_X8_raise_x hM hR hI (by omega) hx) rfl rfl lm_L_181 kc_yX8_raise ki_yX8_raise kv_yX8_raise kd_yX8_raise ⟨Nat.le_of_ble_eq_true rfl, Nat.le_of_ble_eq_true rfl⟩ (by show (cells + 1) + 0 ≤ 603072; omega) (by show (slots + 6) + 0 ≤ 7186538; omega) (Nat.le_of_ble_eq_true rfl) (fun _ w8 r2 => ?_)
    obtain ⟨rfl, I3, L3, rfl, hM3⟩ := r2
    refine JG_eq (w' := wm cy S I3 L3 R2 ++ (w9 ++ wlo cy S G)) (st' := [.int 97]) rfl rfl rfl ?_
    refine JG_istore (lv' := [(0, .ref b), (1, .ref (ka S 0 0)), (2, .ref (ka S 30 0)), (3, .ref (ka S 80 0)), (4, .ref (ka S 81 0)), (5, .int (nI z)), (6, .int 1), (7, .int 97)]) (by decide) rfl dL_law_1105 ?_
    refine JG_aload_n 2 rfl dL_law_1107 ?_
    refine JG_callX8 (As := []) (rest := []) [] (w9 ++ wlo cy S G) dL_law_1108 (c_X8_thrown hM3) rfl rfl lm_L_133 kc_yX8_thrown ki_yX8_thrown kv_yX8_thrown kd_yX8_thrown ⟨Nat.le_of_ble_eq_true rfl, Nat.le_of_ble_eq_true rfl⟩ (by show ((cells + 1) + 0) + 0 ≤ 603072; omega) (by show ((slots + 6) + 0) + 0 ≤ 7186538; omega) (Nat.le_of_ble_eq_true rfl) (fun _ w8 r4 => ?_)
    obtain ⟨rfl, I5, L5, rfl, hM5⟩ := r4
    refine JG_eq (w' := wm cy S I5 L5 R2 ++ (w9 ++ wlo cy S G)) (st' := [.int 1]) rfl rfl rfl ?_
    refine JG_iload 6 rfl dL_law_1111 ?_
    refine JG_icmp_eq 1118 (by decide) dL_law_1113 (fun c6 => ?_) (fun c6 => ?_)
    rotate_left
    · exact absurd (by decide) c6
    refine JG_iload 6 rfl dL_law_1118 ?_
    refine JG_if_ne 1135 (by decide) dL_law_1120 (fun c7 => ?_) (fun c7 => ?_)
    rotate_left
    · exact absurd c7 (by decide)
    refine JG_goto 2268 (by decide) dL_law_1135 ?_
    refine JG_sub (lv' := [(0, .ref b), (1, .ref (ka S 0 0)), (2, .ref (ka S 30 0)), (3, .ref (ka S 80 0)), (4, .ref (ka S 81 0)), (5, .int (nI z))]) [0, 1, 2, 3, 4, 5] rfl ?_
    exact kk m _ _ _ _ _ _ _ _ ⟨LP, rc, hP⟩ hI (by omega) hM5 (by omega) (by omega)

set_option maxRecDepth 20000 in
set_option maxHeartbeats 1000000 in
theorem lc_inLine {cy : Nat → ClassId} {S : Nat → Nat → Nat} {I I2 : kI} {L L2 G : kL} {R R2 : kRf} {LP : List Nat} {m : Mu} {rc : Nat → Nat} {ln qu : List Nat} {lg B : Nat} {cd : Int32} {b Lx z cells slots : Nat} {xs : Nat → Int32} {p1 : Int32} (hR : Rel m I L R LP rc ln qu lg) (hI : Inv m B) (hB : B + 100000 < 2 ^ 30) (hlg : lg < 2 ^ 30) (hM : MR m cd I2 L2) (hz : z + 4 < Lx) (hLx : Lx ≤ 2560) (hcl : cells + 101 ≤ 603072) (hsl : slots + 1307 ≤ 7186538) (e1 : xs (z + 1) = p1) (kk : ∀ (m' : Mu) (B' : Nat) (w9 : va_W) (I2 : kI) (L2 : kL) (cd : Int32) (G : kL) (c' s' : Nat), (∃ LP rc, RelX cy S LP rc m' w9) → Inv m' B' → B' ≤ B + 90000 → MR m' cd I2 L2 → c' ≤ cells + 100 → s' ≤ slots + 1300 → JG RL cL_law 9 cy room_1 (ExL b Lx xs) FinL 2268 [(0, .ref b), (1, .ref (ka S 0 0)), (2, .ref (ka S 30 0)), (3, .ref (ka S 80 0)), (4, .ref (ka S 81 0)), (5, .int (nI z))] [] (wm cy S I2 L2 R2 ++ (w9 ++ wlo cy S G)) c' s') : JG RL cL_law 9 cy room_1 (ExL b Lx xs) FinL 1500 [(0, .ref b), (1, .ref (ka S 0 0)), (2, .ref (ka S 30 0)), (3, .ref (ka S 80 0)), (4, .ref (ka S 81 0)), (5, .int (nI z))] [] (wm cy S I2 L2 R2 ++ (wc cy S I L R LP ++ wlo cy S G)) cells slots := by
  have hl31 : lg < 2 ^ 31 := by omega
  rcases opt_split (lnAt ln p1) with hx | ⟨c, hx⟩
  · skip
    refine JG_aload_n 1 rfl dL_law_1500 ?_
    refine JG_aload_n 0 rfl dL_law_1501 ?_
    refine JG_iload 5 rfl dL_law_1502 ?_
    refine JG_iconst (v := 1) (by decide) dL_law_1504 ?_
    refine JG_iadd dL_law_1505 ?_
    refine JG_topeq (nI (z + 1)) (by exact nI_add z 1) ?_
    refine JG_sld (vp_in_nI (by omega) (by omega)) dL_law_1506 ?_
    refine JG_topeq p1 (by rw [nI_toNat (by omega)]; exact e1) ?_
    refine JG_aload_n 3 rfl dL_law_1507 ?_
    refine JG_callH (As := [.ref (ka S 0 0), .int p1, .ref (ka S 80 0)]) (rest := []) (wm cy S I2 L2 R2) [] dL_law_1508 (w_inLine_1 (c_X7_inLine_x hR hI (by omega) hlg hx)) (by rw [List.append_nil]) lm_L_208 kw_L_inLine kiniL ks_L_inLine kdL_inLine ⟨Nat.le_of_ble_eq_true rfl, Nat.le_of_ble_eq_true rfl⟩ (by show cells + 1 ≤ 603072; omega) (by show slots + 6 ≤ 7186538; omega) (Nat.le_of_ble_eq_true rfl) (fun _ w8 r1 => ?_)
    obtain ⟨rfl, w9, hP, rfl⟩ := r1
    refine JG_eq (w' := wm cy S I2 L2 R2 ++ (w9 ++ wlo cy S G)) (st' := [.int 1]) (by rw [List.append_nil]) rfl rfl ?_
    refine JG_istore (lv' := [(0, .ref b), (1, .ref (ka S 0 0)), (2, .ref (ka S 30 0)), (3, .ref (ka S 80 0)), (4, .ref (ka S 81 0)), (5, .int (nI z)), (6, .int 1)]) (by decide) rfl dL_law_1511 ?_
    refine JG_aload_n 2 rfl dL_law_1513 ?_
    refine JG_aload_n 0 rfl dL_law_1514 ?_
    refine JG_iload 5 rfl dL_law_1515 ?_
    refine JG_iconst (v := 1) (by decide) dL_law_1517 ?_
    refine JG_iadd dL_law_1518 ?_
    refine JG_topeq (nI (z + 1)) (by exact nI_add z 1) ?_
    refine JG_sld (vp_in_nI (by omega) (by omega)) dL_law_1519 ?_
    refine JG_topeq p1 (by rw [nI_toNat (by omega)]; exact e1) ?_
    refine JG_callX8 (As := [.int p1]) (rest := []) [] (w9 ++ wlo cy S G) dL_law_1520 (c_X8_inLine_s hM hR hI (by omega) ) rfl rfl lm_L_210 kc_yX8_inLine ki_yX8_inLine kv_yX8_inLine kd_yX8_inLine ⟨Nat.le_of_ble_eq_true rfl, Nat.le_of_ble_eq_true rfl⟩ (by show (cells + 1) + 0 ≤ 603072; omega) (by show (slots + 6) + 0 ≤ 7186538; omega) (Nat.le_of_ble_eq_true rfl) (fun _ w8 r2 => ?_)
    obtain ⟨rfl, I3, L3, rfl, hM3⟩ := r2
    refine JG_eq (w' := wm cy S I3 L3 R2 ++ (w9 ++ wlo cy S G)) (st' := [.int (lnV (lnAt ln p1))]) rfl rfl rfl ?_
    have hM3b : MR m 1 I3 L3 := by rw [hx] at hM3; exact hM3
    refine JG_topeq 0 (by rw [hx]; rfl) ?_
    refine JG_istore (lv' := [(0, .ref b), (1, .ref (ka S 0 0)), (2, .ref (ka S 30 0)), (3, .ref (ka S 80 0)), (4, .ref (ka S 81 0)), (5, .int (nI z)), (6, .int 1), (7, .int 0)]) (by decide) rfl dL_law_1523 ?_
    refine JG_aload_n 2 rfl dL_law_1525 ?_
    refine JG_callX8 (As := []) (rest := []) [] (w9 ++ wlo cy S G) dL_law_1526 (c_X8_thrown hM3b) rfl rfl lm_L_133 kc_yX8_thrown ki_yX8_thrown kv_yX8_thrown kd_yX8_thrown ⟨Nat.le_of_ble_eq_true rfl, Nat.le_of_ble_eq_true rfl⟩ (by show ((cells + 1) + 0) + 0 ≤ 603072; omega) (by show ((slots + 6) + 0) + 0 ≤ 7186538; omega) (Nat.le_of_ble_eq_true rfl) (fun _ w8 r4 => ?_)
    obtain ⟨rfl, I5, L5, rfl, hM5⟩ := r4
    refine JG_eq (w' := wm cy S I5 L5 R2 ++ (w9 ++ wlo cy S G)) (st' := [.int 1]) rfl rfl rfl ?_
    refine JG_iload 6 rfl dL_law_1529 ?_
    refine JG_icmp_eq 1536 (by decide) dL_law_1531 (fun c6 => ?_) (fun c6 => ?_)
    rotate_left
    · exact absurd (by decide) c6
    refine JG_iload 6 rfl dL_law_1536 ?_
    refine JG_if_ne 1553 (by decide) dL_law_1538 (fun c7 => ?_) (fun c7 => ?_)
    rotate_left
    · exact absurd c7 (by decide)
    refine JG_goto 2268 (by decide) dL_law_1553 ?_
    refine JG_sub (lv' := [(0, .ref b), (1, .ref (ka S 0 0)), (2, .ref (ka S 30 0)), (3, .ref (ka S 80 0)), (4, .ref (ka S 81 0)), (5, .int (nI z))]) [0, 1, 2, 3, 4, 5] rfl ?_
    exact kk m _ _ _ _ _ _ _ _ ⟨LP, rc, hP⟩ hI (by omega) hM5 (by omega) (by omega)
  · skip
    refine JG_aload_n 1 rfl dL_law_1500 ?_
    refine JG_aload_n 0 rfl dL_law_1501 ?_
    refine JG_iload 5 rfl dL_law_1502 ?_
    refine JG_iconst (v := 1) (by decide) dL_law_1504 ?_
    refine JG_iadd dL_law_1505 ?_
    refine JG_topeq (nI (z + 1)) (by exact nI_add z 1) ?_
    refine JG_sld (vp_in_nI (by omega) (by omega)) dL_law_1506 ?_
    refine JG_topeq p1 (by rw [nI_toNat (by omega)]; exact e1) ?_
    refine JG_aload_n 3 rfl dL_law_1507 ?_
    refine JG_callH (As := [.ref (ka S 0 0), .int p1, .ref (ka S 80 0)]) (rest := []) (wm cy S I2 L2 R2) [] dL_law_1508 (w_inLine_s  (c_X7_inLine_s hR hI (by omega) hlg hx)) (by rw [List.append_nil]) lm_L_208 kw_L_inLine kiniL ks_L_inLine kdL_inLine ⟨Nat.le_of_ble_eq_true rfl, Nat.le_of_ble_eq_true rfl⟩ (by show cells + 0 ≤ 603072; omega) (by show slots + 0 ≤ 7186538; omega) (Nat.le_of_ble_eq_true rfl) (fun _ w8 r1 => ?_)
    obtain ⟨rfl, w9, hP, rfl⟩ := r1
    refine JG_eq (w' := wm cy S I2 L2 R2 ++ (w9 ++ wlo cy S (ku G 80 0 0 (nI c).toInt64))) (st' := [.int 0]) (by rw [List.append_nil]) rfl rfl ?_
    refine JG_istore (lv' := [(0, .ref b), (1, .ref (ka S 0 0)), (2, .ref (ka S 30 0)), (3, .ref (ka S 80 0)), (4, .ref (ka S 81 0)), (5, .int (nI z)), (6, .int 0)]) (by decide) rfl dL_law_1511 ?_
    refine JG_aload_n 2 rfl dL_law_1513 ?_
    refine JG_aload_n 0 rfl dL_law_1514 ?_
    refine JG_iload 5 rfl dL_law_1515 ?_
    refine JG_iconst (v := 1) (by decide) dL_law_1517 ?_
    refine JG_iadd dL_law_1518 ?_
    refine JG_topeq (nI (z + 1)) (by exact nI_add z 1) ?_
    refine JG_sld (vp_in_nI (by omega) (by omega)) dL_law_1519 ?_
    refine JG_topeq p1 (by rw [nI_toNat (by omega)]; exact e1) ?_
    refine JG_callX8 (As := [.int p1]) (rest := []) [] (w9 ++ wlo cy S (ku G 80 0 0 (nI c).toInt64)) dL_law_1520 (c_X8_inLine_s hM hR hI (by omega) ) rfl rfl lm_L_210 kc_yX8_inLine ki_yX8_inLine kv_yX8_inLine kd_yX8_inLine ⟨Nat.le_of_ble_eq_true rfl, Nat.le_of_ble_eq_true rfl⟩ (by show (cells + 0) + 0 ≤ 603072; omega) (by show (slots + 0) + 0 ≤ 7186538; omega) (Nat.le_of_ble_eq_true rfl) (fun _ w8 r2 => ?_)
    obtain ⟨rfl, I3, L3, rfl, hM3⟩ := r2
    refine JG_eq (w' := wm cy S I3 L3 R2 ++ (w9 ++ wlo cy S (ku G 80 0 0 (nI c).toInt64))) (st' := [.int (lnV (lnAt ln p1))]) rfl rfl rfl ?_
    have hM3b : MR m 0 I3 L3 := by rw [hx] at hM3; exact hM3
    refine JG_topeq (nI c) (by rw [hx]; rfl) ?_
    refine JG_istore (lv' := [(0, .ref b), (1, .ref (ka S 0 0)), (2, .ref (ka S 30 0)), (3, .ref (ka S 80 0)), (4, .ref (ka S 81 0)), (5, .int (nI z)), (6, .int 0), (7, .int (nI c))]) (by decide) rfl dL_law_1523 ?_
    refine JG_aload_n 2 rfl dL_law_1525 ?_
    refine JG_callX8 (As := []) (rest := []) [] (w9 ++ wlo cy S (ku G 80 0 0 (nI c).toInt64)) dL_law_1526 (c_X8_thrown hM3b) rfl rfl lm_L_133 kc_yX8_thrown ki_yX8_thrown kv_yX8_thrown kd_yX8_thrown ⟨Nat.le_of_ble_eq_true rfl, Nat.le_of_ble_eq_true rfl⟩ (by show ((cells + 0) + 0) + 0 ≤ 603072; omega) (by show ((slots + 0) + 0) + 0 ≤ 7186538; omega) (Nat.le_of_ble_eq_true rfl) (fun _ w8 r4 => ?_)
    obtain ⟨rfl, I5, L5, rfl, hM5⟩ := r4
    refine JG_eq (w' := wm cy S I5 L5 R2 ++ (w9 ++ wlo cy S (ku G 80 0 0 (nI c).toInt64))) (st' := [.int 0]) rfl rfl rfl ?_
    refine JG_iload 6 rfl dL_law_1529 ?_
    refine JG_icmp_eq 1536 (by decide) dL_law_1531 (fun c6 => ?_) (fun c6 => ?_)
    rotate_left
    · exact absurd (by decide) c6
    refine JG_iload 6 rfl dL_law_1536 ?_
    refine JG_if_ne 1553 (by decide) dL_law_1538 (fun c7 => ?_) (fun c7 => ?_)
    · exact absurd (by decide) c7
    refine JG_aload_n 3 rfl dL_law_1541 ?_
    refine JG_iconst (v := 0) (by decide) dL_law_1542 ?_
    refine JG_eq (w' := (wm cy S I5 L5 R2 ++ w9) ++ wlo cy S (ku G 80 0 0 (nI c).toInt64)) (List.append_assoc _ _ _).symm rfl rfl ?_
    refine JG_laldO dL_law_1543 ?_
    refine JG_eq (w' := wm cy S I5 L5 R2 ++ (w9 ++ wlo cy S (ku G 80 0 0 (nI c).toInt64))) (st' := [.long (nI c).toInt64]) (List.append_assoc _ _ _) rfl (by rw [ku_eq]) ?_
    refine JG_iload 7 rfl dL_law_1544 ?_
    refine JG_i2l dL_law_1546 ?_
    refine JG_lcmp (rfl) dL_law_1547 ?_
    refine JG_if_eq 1553 (by decide) dL_law_1548 (fun c8 => ?_) (fun c8 => ?_)
    rotate_left
    · exact absurd (by decide) c8
    refine JG_goto 2268 (by decide) dL_law_1553 ?_
    refine JG_sub (lv' := [(0, .ref b), (1, .ref (ka S 0 0)), (2, .ref (ka S 30 0)), (3, .ref (ka S 80 0)), (4, .ref (ka S 81 0)), (5, .int (nI z))]) [0, 1, 2, 3, 4, 5] rfl ?_
    exact kk m _ _ _ _ _ _ _ _ ⟨LP, rc, hP⟩ hI (by omega) hM5 (by omega) (by omega)

set_option maxRecDepth 20000 in
set_option maxHeartbeats 1000000 in
theorem lc_inLineByCounting {cy : Nat → ClassId} {S : Nat → Nat → Nat} {I I2 : kI} {L L2 G : kL} {R R2 : kRf} {LP : List Nat} {m : Mu} {rc : Nat → Nat} {ln qu : List Nat} {lg B : Nat} {cd : Int32} {b Lx z cells slots : Nat} {xs : Nat → Int32} {p1 : Int32} (hR : Rel m I L R LP rc ln qu lg) (hI : Inv m B) (hB : B + 100000 < 2 ^ 30) (hlg : lg < 2 ^ 30) (hM : MR m cd I2 L2) (hz : z + 4 < Lx) (hLx : Lx ≤ 2560) (hcl : cells + 101 ≤ 603072) (hsl : slots + 1307 ≤ 7186538) (e1 : xs (z + 1) = p1) (kk : ∀ (m' : Mu) (B' : Nat) (w9 : va_W) (I2 : kI) (L2 : kL) (cd : Int32) (G : kL) (c' s' : Nat), (∃ LP rc, RelX cy S LP rc m' w9) → Inv m' B' → B' ≤ B + 90000 → MR m' cd I2 L2 → c' ≤ cells + 100 → s' ≤ slots + 1300 → JG RL cL_law 9 cy room_1 (ExL b Lx xs) FinL 2268 [(0, .ref b), (1, .ref (ka S 0 0)), (2, .ref (ka S 30 0)), (3, .ref (ka S 80 0)), (4, .ref (ka S 81 0)), (5, .int (nI z))] [] (wm cy S I2 L2 R2 ++ (w9 ++ wlo cy S G)) c' s') : JG RL cL_law 9 cy room_1 (ExL b Lx xs) FinL 1556 [(0, .ref b), (1, .ref (ka S 0 0)), (2, .ref (ka S 30 0)), (3, .ref (ka S 80 0)), (4, .ref (ka S 81 0)), (5, .int (nI z))] [] (wm cy S I2 L2 R2 ++ (wc cy S I L R LP ++ wlo cy S G)) cells slots := by
  have hl31 : lg < 2 ^ 31 := by omega
  rcases opt_split (lnAt ln p1) with hx | ⟨c, hx⟩
  · skip
    refine JG_aload_n 1 rfl dL_law_1556 ?_
    refine JG_aload_n 0 rfl dL_law_1557 ?_
    refine JG_iload 5 rfl dL_law_1558 ?_
    refine JG_iconst (v := 1) (by decide) dL_law_1560 ?_
    refine JG_iadd dL_law_1561 ?_
    refine JG_topeq (nI (z + 1)) (by exact nI_add z 1) ?_
    refine JG_sld (vp_in_nI (by omega) (by omega)) dL_law_1562 ?_
    refine JG_topeq p1 (by rw [nI_toNat (by omega)]; exact e1) ?_
    refine JG_aload_n 3 rfl dL_law_1563 ?_
    refine JG_callH (As := [.ref (ka S 0 0), .int p1, .ref (ka S 80 0)]) (rest := []) (wm cy S I2 L2 R2) [] dL_law_1564 (w_inLineByCounting_1 (c_X7_inLineByCounting_x hR hI (by omega) hlg hx)) (by rw [List.append_nil]) lm_L_211 kw_L_inLineByCounting kiniL ks_L_inLineByCounting kdL_inLineByCounting ⟨Nat.le_of_ble_eq_true rfl, Nat.le_of_ble_eq_true rfl⟩ (by show cells + 1 ≤ 603072; omega) (by show slots + 6 ≤ 7186538; omega) (Nat.le_of_ble_eq_true rfl) (fun _ w8 r1 => ?_)
    obtain ⟨rfl, w9, hP, rfl⟩ := r1
    refine JG_eq (w' := wm cy S I2 L2 R2 ++ (w9 ++ wlo cy S G)) (st' := [.int 1]) (by rw [List.append_nil]) rfl rfl ?_
    refine JG_istore (lv' := [(0, .ref b), (1, .ref (ka S 0 0)), (2, .ref (ka S 30 0)), (3, .ref (ka S 80 0)), (4, .ref (ka S 81 0)), (5, .int (nI z)), (6, .int 1)]) (by decide) rfl dL_law_1567 ?_
    refine JG_aload_n 2 rfl dL_law_1569 ?_
    refine JG_aload_n 0 rfl dL_law_1570 ?_
    refine JG_iload 5 rfl dL_law_1571 ?_
    refine JG_iconst (v := 1) (by decide) dL_law_1573 ?_
    refine JG_iadd dL_law_1574 ?_
    refine JG_topeq (nI (z + 1)) (by exact nI_add z 1) ?_
    refine JG_sld (vp_in_nI (by omega) (by omega)) dL_law_1575 ?_
    refine JG_topeq p1 (by rw [nI_toNat (by omega)]; exact e1) ?_
    refine JG_callX8 (As := [.int p1]) (rest := []) [] (w9 ++ wlo cy S G) dL_law_1576 (c_X8_inLineByCounting_s hM hR hI (by omega) ) rfl rfl lm_L_213 kc_yX8_inLineByCounting ki_yX8_inLineByCounting kv_yX8_inLineByCounting kd_yX8_inLineByCounting ⟨Nat.le_of_ble_eq_true rfl, Nat.le_of_ble_eq_true rfl⟩ (by show (cells + 1) + 0 ≤ 603072; omega) (by show (slots + 6) + 0 ≤ 7186538; omega) (Nat.le_of_ble_eq_true rfl) (fun _ w8 r2 => ?_)
    obtain ⟨rfl, I3, L3, rfl, hM3⟩ := r2
    refine JG_eq (w' := wm cy S I3 L3 R2 ++ (w9 ++ wlo cy S G)) (st' := [.int (lnV (lnAt ln p1))]) rfl rfl rfl ?_
    have hM3b : MR m 1 I3 L3 := by rw [hx] at hM3; exact hM3
    refine JG_topeq 0 (by rw [hx]; rfl) ?_
    refine JG_istore (lv' := [(0, .ref b), (1, .ref (ka S 0 0)), (2, .ref (ka S 30 0)), (3, .ref (ka S 80 0)), (4, .ref (ka S 81 0)), (5, .int (nI z)), (6, .int 1), (7, .int 0)]) (by decide) rfl dL_law_1579 ?_
    refine JG_aload_n 2 rfl dL_law_1581 ?_
    refine JG_callX8 (As := []) (rest := []) [] (w9 ++ wlo cy S G) dL_law_1582 (c_X8_thrown hM3b) rfl rfl lm_L_133 kc_yX8_thrown ki_yX8_thrown kv_yX8_thrown kd_yX8_thrown ⟨Nat.le_of_ble_eq_true rfl, Nat.le_of_ble_eq_true rfl⟩ (by show ((cells + 1) + 0) + 0 ≤ 603072; omega) (by show ((slots + 6) + 0) + 0 ≤ 7186538; omega) (Nat.le_of_ble_eq_true rfl) (fun _ w8 r4 => ?_)
    obtain ⟨rfl, I5, L5, rfl, hM5⟩ := r4
    refine JG_eq (w' := wm cy S I5 L5 R2 ++ (w9 ++ wlo cy S G)) (st' := [.int 1]) rfl rfl rfl ?_
    refine JG_iload 6 rfl dL_law_1585 ?_
    refine JG_icmp_eq 1592 (by decide) dL_law_1587 (fun c6 => ?_) (fun c6 => ?_)
    rotate_left
    · exact absurd (by decide) c6
    refine JG_iload 6 rfl dL_law_1592 ?_
    refine JG_if_ne 1609 (by decide) dL_law_1594 (fun c7 => ?_) (fun c7 => ?_)
    rotate_left
    · exact absurd c7 (by decide)
    refine JG_goto 2268 (by decide) dL_law_1609 ?_
    refine JG_sub (lv' := [(0, .ref b), (1, .ref (ka S 0 0)), (2, .ref (ka S 30 0)), (3, .ref (ka S 80 0)), (4, .ref (ka S 81 0)), (5, .int (nI z))]) [0, 1, 2, 3, 4, 5] rfl ?_
    exact kk m _ _ _ _ _ _ _ _ ⟨LP, rc, hP⟩ hI (by omega) hM5 (by omega) (by omega)
  · skip
    refine JG_aload_n 1 rfl dL_law_1556 ?_
    refine JG_aload_n 0 rfl dL_law_1557 ?_
    refine JG_iload 5 rfl dL_law_1558 ?_
    refine JG_iconst (v := 1) (by decide) dL_law_1560 ?_
    refine JG_iadd dL_law_1561 ?_
    refine JG_topeq (nI (z + 1)) (by exact nI_add z 1) ?_
    refine JG_sld (vp_in_nI (by omega) (by omega)) dL_law_1562 ?_
    refine JG_topeq p1 (by rw [nI_toNat (by omega)]; exact e1) ?_
    refine JG_aload_n 3 rfl dL_law_1563 ?_
    refine JG_callH (As := [.ref (ka S 0 0), .int p1, .ref (ka S 80 0)]) (rest := []) (wm cy S I2 L2 R2) [] dL_law_1564 (w_inLineByCounting_s  (c_X7_inLineByCounting_s hR hI (by omega) hlg hx)) (by rw [List.append_nil]) lm_L_211 kw_L_inLineByCounting kiniL ks_L_inLineByCounting kdL_inLineByCounting ⟨Nat.le_of_ble_eq_true rfl, Nat.le_of_ble_eq_true rfl⟩ (by show cells + 0 ≤ 603072; omega) (by show slots + 0 ≤ 7186538; omega) (Nat.le_of_ble_eq_true rfl) (fun _ w8 r1 => ?_)
    obtain ⟨rfl, w9, hP, rfl⟩ := r1
    refine JG_eq (w' := wm cy S I2 L2 R2 ++ (w9 ++ wlo cy S (ku G 80 0 0 (nI c).toInt64))) (st' := [.int 0]) (by rw [List.append_nil]) rfl rfl ?_
    refine JG_istore (lv' := [(0, .ref b), (1, .ref (ka S 0 0)), (2, .ref (ka S 30 0)), (3, .ref (ka S 80 0)), (4, .ref (ka S 81 0)), (5, .int (nI z)), (6, .int 0)]) (by decide) rfl dL_law_1567 ?_
    refine JG_aload_n 2 rfl dL_law_1569 ?_
    refine JG_aload_n 0 rfl dL_law_1570 ?_
    refine JG_iload 5 rfl dL_law_1571 ?_
    refine JG_iconst (v := 1) (by decide) dL_law_1573 ?_
    refine JG_iadd dL_law_1574 ?_
    refine JG_topeq (nI (z + 1)) (by exact nI_add z 1) ?_
    refine JG_sld (vp_in_nI (by omega) (by omega)) dL_law_1575 ?_
    refine JG_topeq p1 (by rw [nI_toNat (by omega)]; exact e1) ?_
    refine JG_callX8 (As := [.int p1]) (rest := []) [] (w9 ++ wlo cy S (ku G 80 0 0 (nI c).toInt64)) dL_law_1576 (c_X8_inLineByCounting_s hM hR hI (by omega) ) rfl rfl lm_L_213 kc_yX8_inLineByCounting ki_yX8_inLineByCounting kv_yX8_inLineByCounting kd_yX8_inLineByCounting ⟨Nat.le_of_ble_eq_true rfl, Nat.le_of_ble_eq_true rfl⟩ (by show (cells + 0) + 0 ≤ 603072; omega) (by show (slots + 0) + 0 ≤ 7186538; omega) (Nat.le_of_ble_eq_true rfl) (fun _ w8 r2 => ?_)
    obtain ⟨rfl, I3, L3, rfl, hM3⟩ := r2
    refine JG_eq (w' := wm cy S I3 L3 R2 ++ (w9 ++ wlo cy S (ku G 80 0 0 (nI c).toInt64))) (st' := [.int (lnV (lnAt ln p1))]) rfl rfl rfl ?_
    have hM3b : MR m 0 I3 L3 := by rw [hx] at hM3; exact hM3
    refine JG_topeq (nI c) (by rw [hx]; rfl) ?_
    refine JG_istore (lv' := [(0, .ref b), (1, .ref (ka S 0 0)), (2, .ref (ka S 30 0)), (3, .ref (ka S 80 0)), (4, .ref (ka S 81 0)), (5, .int (nI z)), (6, .int 0), (7, .int (nI c))]) (by decide) rfl dL_law_1579 ?_
    refine JG_aload_n 2 rfl dL_law_1581 ?_
    refine JG_callX8 (As := []) (rest := []) [] (w9 ++ wlo cy S (ku G 80 0 0 (nI c).toInt64)) dL_law_1582 (c_X8_thrown hM3b) rfl rfl lm_L_133 kc_yX8_thrown ki_yX8_thrown kv_yX8_thrown kd_yX8_thrown ⟨Nat.le_of_ble_eq_true rfl, Nat.le_of_ble_eq_true rfl⟩ (by show ((cells + 0) + 0) + 0 ≤ 603072; omega) (by show ((slots + 0) + 0) + 0 ≤ 7186538; omega) (Nat.le_of_ble_eq_true rfl) (fun _ w8 r4 => ?_)
    obtain ⟨rfl, I5, L5, rfl, hM5⟩ := r4
    refine JG_eq (w' := wm cy S I5 L5 R2 ++ (w9 ++ wlo cy S (ku G 80 0 0 (nI c).toInt64))) (st' := [.int 0]) rfl rfl rfl ?_
    refine JG_iload 6 rfl dL_law_1585 ?_
    refine JG_icmp_eq 1592 (by decide) dL_law_1587 (fun c6 => ?_) (fun c6 => ?_)
    rotate_left
    · exact absurd (by decide) c6
    refine JG_iload 6 rfl dL_law_1592 ?_
    refine JG_if_ne 1609 (by decide) dL_law_1594 (fun c7 => ?_) (fun c7 => ?_)
    · exact absurd (by decide) c7
    refine JG_aload_n 3 rfl dL_law_1597 ?_
    refine JG_iconst (v := 0) (by decide) dL_law_1598 ?_
    refine JG_eq (w' := (wm cy S I5 L5 R2 ++ w9) ++ wlo cy S (ku G 80 0 0 (nI c).toInt64)) (List.append_assoc _ _ _).symm rfl rfl ?_
    refine JG_laldO dL_law_1599 ?_
    refine JG_eq (w' := wm cy S I5 L5 R2 ++ (w9 ++ wlo cy S (ku G 80 0 0 (nI c).toInt64))) (st' := [.long (nI c).toInt64]) (List.append_assoc _ _ _) rfl (by rw [ku_eq]) ?_
    refine JG_iload 7 rfl dL_law_1600 ?_
    refine JG_i2l dL_law_1602 ?_
    refine JG_lcmp (rfl) dL_law_1603 ?_
    refine JG_if_eq 1609 (by decide) dL_law_1604 (fun c8 => ?_) (fun c8 => ?_)
    rotate_left
    · exact absurd (by decide) c8
    refine JG_goto 2268 (by decide) dL_law_1609 ?_
    refine JG_sub (lv' := [(0, .ref b), (1, .ref (ka S 0 0)), (2, .ref (ka S 30 0)), (3, .ref (ka S 80 0)), (4, .ref (ka S 81 0)), (5, .int (nI z))]) [0, 1, 2, 3, 4, 5] rfl ?_
    exact kk m _ _ _ _ _ _ _ _ ⟨LP, rc, hP⟩ hI (by omega) hM5 (by omega) (by omega)

set_option maxRecDepth 20000 in
set_option maxHeartbeats 1000000 in
theorem lc_pass {cy : Nat → ClassId} {S : Nat → Nat → Nat} {I I2 : kI} {L L2 G : kL} {R R2 : kRf} {LP : List Nat} {m : Mu} {rc : Nat → Nat} {ln qu : List Nat} {lg B : Nat} {cd : Int32} {b Lx z cells slots : Nat} {xs : Nat → Int32} {p1 : Int32} (hR : Rel m I L R LP rc ln qu lg) (hI : Inv m B) (hB : B + 100000 < 2 ^ 30) (hlg : lg < 2 ^ 30) (hM : MR m cd I2 L2) (hz : z + 4 < Lx) (hLx : Lx ≤ 2560) (hcl : cells + 101 ≤ 603072) (hsl : slots + 1307 ≤ 7186538) (e1 : xs (z + 1) = p1) (kk : ∀ (m' : Mu) (B' : Nat) (w9 : va_W) (I2 : kI) (L2 : kL) (cd : Int32) (G : kL) (c' s' : Nat), (∃ LP rc, RelX cy S LP rc m' w9) → Inv m' B' → B' ≤ B + 90000 → MR m' cd I2 L2 → c' ≤ cells + 100 → s' ≤ slots + 1300 → JG RL cL_law 9 cy room_1 (ExL b Lx xs) FinL 2268 [(0, .ref b), (1, .ref (ka S 0 0)), (2, .ref (ka S 30 0)), (3, .ref (ka S 80 0)), (4, .ref (ka S 81 0)), (5, .int (nI z))] [] (wm cy S I2 L2 R2 ++ (w9 ++ wlo cy S G)) c' s') : JG RL cL_law 9 cy room_1 (ExL b Lx xs) FinL 1612 [(0, .ref b), (1, .ref (ka S 0 0)), (2, .ref (ka S 30 0)), (3, .ref (ka S 80 0)), (4, .ref (ka S 81 0)), (5, .int (nI z))] [] (wm cy S I2 L2 R2 ++ (wc cy S I L R LP ++ wlo cy S G)) cells slots := by
  have hl31 : lg < 2 ^ 31 := by omega
  by_cases hx : 1 ≤ p1 ∧ p1 ≤ 10
  · obtain ⟨k, hk31, rfl⟩ := nI_of (x := p1) (by grind)
    have h1 : 1 ≤ k := (nI_leI (a := 1) (by decide) hk31).mp hx.1
    have h10 : k ≤ 10 := (nI_leI (b := 10) hk31 (by decide)).mp hx.2
    refine JG_aload_n 1 rfl dL_law_1612 ?_
    refine JG_aload_n 0 rfl dL_law_1613 ?_
    refine JG_iload 5 rfl dL_law_1614 ?_
    refine JG_iconst (v := 1) (by decide) dL_law_1616 ?_
    refine JG_iadd dL_law_1617 ?_
    refine JG_topeq (nI (z + 1)) (by exact nI_add z 1) ?_
    refine JG_sld (vp_in_nI (by omega) (by omega)) dL_law_1618 ?_
    refine JG_topeq (nI k) (by rw [nI_toNat (by omega)]; exact e1) ?_
    refine JG_aload_n 3 rfl dL_law_1619 ?_
    refine JG_callH (As := [.ref (ka S 0 0), .int (nI k), .ref (ka S 80 0)]) (rest := []) (wm cy S I2 L2 R2) [] dL_law_1620 (w_pass_s  (c_X7_pass_s hR hI (by omega) hlg h1 h10)) (by rw [List.append_nil]) lm_L_214 kw_L_pass kiniL ks_L_pass kdL_pass ⟨Nat.le_of_ble_eq_true rfl, Nat.le_of_ble_eq_true rfl⟩ (by show cells + 100 ≤ 603072; omega) (by show slots + 1300 ≤ 7186538; omega) (Nat.le_of_ble_eq_true rfl) (fun _ w8 r1 => ?_)
    obtain ⟨rfl, w9, hP, rfl⟩ := r1
    refine JG_eq (w' := wm cy S I2 L2 R2 ++ (w9 ++ wlo cy S (ku G 80 0 0 (nI (mPass k (m, 0)).2).toInt64))) (st' := [.int 0]) (by rw [List.append_nil]) rfl rfl ?_
    refine JG_istore (lv' := [(0, .ref b), (1, .ref (ka S 0 0)), (2, .ref (ka S 30 0)), (3, .ref (ka S 80 0)), (4, .ref (ka S 81 0)), (5, .int (nI z)), (6, .int 0)]) (by decide) rfl dL_law_1623 ?_
    refine JG_aload_n 2 rfl dL_law_1625 ?_
    refine JG_aload_n 0 rfl dL_law_1626 ?_
    refine JG_iload 5 rfl dL_law_1627 ?_
    refine JG_iconst (v := 1) (by decide) dL_law_1629 ?_
    refine JG_iadd dL_law_1630 ?_
    refine JG_topeq (nI (z + 1)) (by exact nI_add z 1) ?_
    refine JG_sld (vp_in_nI (by omega) (by omega)) dL_law_1631 ?_
    refine JG_topeq (nI k) (by rw [nI_toNat (by omega)]; exact e1) ?_
    refine JG_callX8 (As := [.int (nI k)]) (rest := []) [] (w9 ++ wlo cy S (ku G 80 0 0 (nI (mPass k (m, 0)).2).toInt64)) dL_law_1632 (c_X8_pass_s hM ⟨hR.1.1, hR.2.1.1⟩ hI (by omega) h1 h10) rfl rfl lm_L_216 kc_yX8_pass ki_yX8_pass kv_yX8_pass kd_yX8_pass ⟨Nat.le_of_ble_eq_true rfl, Nat.le_of_ble_eq_true rfl⟩ (by show (cells + 100) + 0 ≤ 603072; omega) (by show (slots + 1300) + 0 ≤ 7186538; omega) (Nat.le_of_ble_eq_true rfl) (fun _ w8 r2 => ?_)
    obtain ⟨rfl, I3, L3, rfl, hM3⟩ := r2
    refine JG_eq (w' := wm cy S I3 L3 R2 ++ (w9 ++ wlo cy S (ku G 80 0 0 (nI (mPass k (m, 0)).2).toInt64))) (st' := [.int (nI (mPass k (m, 0)).2)]) rfl rfl rfl ?_
    refine JG_istore (lv' := [(0, .ref b), (1, .ref (ka S 0 0)), (2, .ref (ka S 30 0)), (3, .ref (ka S 80 0)), (4, .ref (ka S 81 0)), (5, .int (nI z)), (6, .int 0), (7, .int (nI (mPass k (m, 0)).2))]) (by decide) rfl dL_law_1635 ?_
    refine JG_aload_n 2 rfl dL_law_1637 ?_
    refine JG_callX8 (As := []) (rest := []) [] (w9 ++ wlo cy S (ku G 80 0 0 (nI (mPass k (m, 0)).2).toInt64)) dL_law_1638 (c_X8_thrown hM3) rfl rfl lm_L_133 kc_yX8_thrown ki_yX8_thrown kv_yX8_thrown kd_yX8_thrown ⟨Nat.le_of_ble_eq_true rfl, Nat.le_of_ble_eq_true rfl⟩ (by show ((cells + 100) + 0) + 0 ≤ 603072; omega) (by show ((slots + 1300) + 0) + 0 ≤ 7186538; omega) (Nat.le_of_ble_eq_true rfl) (fun _ w8 r4 => ?_)
    obtain ⟨rfl, I5, L5, rfl, hM5⟩ := r4
    refine JG_eq (w' := wm cy S I5 L5 R2 ++ (w9 ++ wlo cy S (ku G 80 0 0 (nI (mPass k (m, 0)).2).toInt64))) (st' := [.int 0]) rfl rfl rfl ?_
    refine JG_iload 6 rfl dL_law_1641 ?_
    refine JG_icmp_eq 1648 (by decide) dL_law_1643 (fun c6 => ?_) (fun c6 => ?_)
    rotate_left
    · exact absurd (by decide) c6
    refine JG_iload 6 rfl dL_law_1648 ?_
    refine JG_if_ne 1665 (by decide) dL_law_1650 (fun c7 => ?_) (fun c7 => ?_)
    · exact absurd (by decide) c7
    refine JG_aload_n 3 rfl dL_law_1653 ?_
    refine JG_iconst (v := 0) (by decide) dL_law_1654 ?_
    refine JG_eq (w' := (wm cy S I5 L5 R2 ++ w9) ++ wlo cy S (ku G 80 0 0 (nI (mPass k (m, 0)).2).toInt64)) (List.append_assoc _ _ _).symm rfl rfl ?_
    refine JG_laldO dL_law_1655 ?_
    refine JG_eq (w' := wm cy S I5 L5 R2 ++ (w9 ++ wlo cy S (ku G 80 0 0 (nI (mPass k (m, 0)).2).toInt64))) (st' := [.long (nI (mPass k (m, 0)).2).toInt64]) (List.append_assoc _ _ _) rfl (by rw [ku_eq]) ?_
    refine JG_iload 7 rfl dL_law_1656 ?_
    refine JG_i2l dL_law_1658 ?_
    refine JG_lcmp (rfl) dL_law_1659 ?_
    refine JG_if_eq 1665 (by decide) dL_law_1660 (fun c8 => ?_) (fun c8 => ?_)
    rotate_left
    · exact absurd (by decide) c8
    refine JG_goto 2268 (by decide) dL_law_1665 ?_
    refine JG_sub (lv' := [(0, .ref b), (1, .ref (ka S 0 0)), (2, .ref (ka S 30 0)), (3, .ref (ka S 80 0)), (4, .ref (ka S 81 0)), (5, .int (nI z))]) [0, 1, 2, 3, 4, 5] rfl ?_
    exact kk (mPass k (m, 0)).1 _ _ _ _ _ _ _ _ hP.2 hP.1 (by omega) hM5 (by omega) (by omega)
  · skip
    refine JG_aload_n 1 rfl dL_law_1612 ?_
    refine JG_aload_n 0 rfl dL_law_1613 ?_
    refine JG_iload 5 rfl dL_law_1614 ?_
    refine JG_iconst (v := 1) (by decide) dL_law_1616 ?_
    refine JG_iadd dL_law_1617 ?_
    refine JG_topeq (nI (z + 1)) (by exact nI_add z 1) ?_
    refine JG_sld (vp_in_nI (by omega) (by omega)) dL_law_1618 ?_
    refine JG_topeq p1 (by rw [nI_toNat (by omega)]; exact e1) ?_
    refine JG_aload_n 3 rfl dL_law_1619 ?_
    refine JG_callH (As := [.ref (ka S 0 0), .int p1, .ref (ka S 80 0)]) (rest := []) (wm cy S I2 L2 R2) [] dL_law_1620 (w_pass_1 (c_X7_pass_x hR hI (by omega) hlg hx)) (by rw [List.append_nil]) lm_L_214 kw_L_pass kiniL ks_L_pass kdL_pass ⟨Nat.le_of_ble_eq_true rfl, Nat.le_of_ble_eq_true rfl⟩ (by show cells + 1 ≤ 603072; omega) (by show slots + 6 ≤ 7186538; omega) (Nat.le_of_ble_eq_true rfl) (fun _ w8 r1 => ?_)
    obtain ⟨rfl, w9, hP, rfl⟩ := r1
    refine JG_eq (w' := wm cy S I2 L2 R2 ++ (w9 ++ wlo cy S G)) (st' := [.int 1]) (by rw [List.append_nil]) rfl rfl ?_
    refine JG_istore (lv' := [(0, .ref b), (1, .ref (ka S 0 0)), (2, .ref (ka S 30 0)), (3, .ref (ka S 80 0)), (4, .ref (ka S 81 0)), (5, .int (nI z)), (6, .int 1)]) (by decide) rfl dL_law_1623 ?_
    refine JG_aload_n 2 rfl dL_law_1625 ?_
    refine JG_aload_n 0 rfl dL_law_1626 ?_
    refine JG_iload 5 rfl dL_law_1627 ?_
    refine JG_iconst (v := 1) (by decide) dL_law_1629 ?_
    refine JG_iadd dL_law_1630 ?_
    refine JG_topeq (nI (z + 1)) (by exact nI_add z 1) ?_
    refine JG_sld (vp_in_nI (by omega) (by omega)) dL_law_1631 ?_
    refine JG_topeq p1 (by rw [nI_toNat (by omega)]; exact e1) ?_
    refine JG_callX8 (As := [.int p1]) (rest := []) [] (w9 ++ wlo cy S G) dL_law_1632 (c_X8_pass_x hM hx) rfl rfl lm_L_216 kc_yX8_pass ki_yX8_pass kv_yX8_pass kd_yX8_pass ⟨Nat.le_of_ble_eq_true rfl, Nat.le_of_ble_eq_true rfl⟩ (by show (cells + 1) + 0 ≤ 603072; omega) (by show (slots + 6) + 0 ≤ 7186538; omega) (Nat.le_of_ble_eq_true rfl) (fun _ w8 r2 => ?_)
    obtain ⟨rfl, I3, L3, rfl, hM3⟩ := r2
    refine JG_eq (w' := wm cy S I3 L3 R2 ++ (w9 ++ wlo cy S G)) (st' := [.int 0]) rfl rfl rfl ?_
    refine JG_istore (lv' := [(0, .ref b), (1, .ref (ka S 0 0)), (2, .ref (ka S 30 0)), (3, .ref (ka S 80 0)), (4, .ref (ka S 81 0)), (5, .int (nI z)), (6, .int 1), (7, .int 0)]) (by decide) rfl dL_law_1635 ?_
    refine JG_aload_n 2 rfl dL_law_1637 ?_
    refine JG_callX8 (As := []) (rest := []) [] (w9 ++ wlo cy S G) dL_law_1638 (c_X8_thrown hM3) rfl rfl lm_L_133 kc_yX8_thrown ki_yX8_thrown kv_yX8_thrown kd_yX8_thrown ⟨Nat.le_of_ble_eq_true rfl, Nat.le_of_ble_eq_true rfl⟩ (by show ((cells + 1) + 0) + 0 ≤ 603072; omega) (by show ((slots + 6) + 0) + 0 ≤ 7186538; omega) (Nat.le_of_ble_eq_true rfl) (fun _ w8 r4 => ?_)
    obtain ⟨rfl, I5, L5, rfl, hM5⟩ := r4
    refine JG_eq (w' := wm cy S I5 L5 R2 ++ (w9 ++ wlo cy S G)) (st' := [.int 1]) rfl rfl rfl ?_
    refine JG_iload 6 rfl dL_law_1641 ?_
    refine JG_icmp_eq 1648 (by decide) dL_law_1643 (fun c6 => ?_) (fun c6 => ?_)
    rotate_left
    · exact absurd (by decide) c6
    refine JG_iload 6 rfl dL_law_1648 ?_
    refine JG_if_ne 1665 (by decide) dL_law_1650 (fun c7 => ?_) (fun c7 => ?_)
    rotate_left
    · exact absurd c7 (by decide)
    refine JG_goto 2268 (by decide) dL_law_1665 ?_
    refine JG_sub (lv' := [(0, .ref b), (1, .ref (ka S 0 0)), (2, .ref (ka S 30 0)), (3, .ref (ka S 80 0)), (4, .ref (ka S 81 0)), (5, .int (nI z))]) [0, 1, 2, 3, 4, 5] rfl ?_
    exact kk m _ _ _ _ _ _ _ _ ⟨LP, rc, hP⟩ hI (by omega) hM5 (by omega) (by omega)

set_option maxRecDepth 20000 in
set_option maxHeartbeats 1000000 in
theorem lc_setWatch {cy : Nat → ClassId} {S : Nat → Nat → Nat} {I I2 : kI} {L L2 G : kL} {R R2 : kRf} {LP : List Nat} {m : Mu} {rc : Nat → Nat} {ln qu : List Nat} {lg B : Nat} {cd : Int32} {b Lx z cells slots : Nat} {xs : Nat → Int32} {p1 p2 : Int32} (hR : Rel m I L R LP rc ln qu lg) (hI : Inv m B) (hB : B + 100000 < 2 ^ 30) (hlg : lg < 2 ^ 30) (hM : MR m cd I2 L2) (hz : z + 4 < Lx) (hLx : Lx ≤ 2560) (hcl : cells + 101 ≤ 603072) (hsl : slots + 1307 ≤ 7186538) (e1 : xs (z + 1) = p1) (e2 : xs (z + 2) = p2) (kk : ∀ (m' : Mu) (B' : Nat) (w9 : va_W) (I2 : kI) (L2 : kL) (cd : Int32) (G : kL) (c' s' : Nat), (∃ LP rc, RelX cy S LP rc m' w9) → Inv m' B' → B' ≤ B + 90000 → MR m' cd I2 L2 → c' ≤ cells + 100 → s' ≤ slots + 1300 → JG RL cL_law 9 cy room_1 (ExL b Lx xs) FinL 2268 [(0, .ref b), (1, .ref (ka S 0 0)), (2, .ref (ka S 30 0)), (3, .ref (ka S 80 0)), (4, .ref (ka S 81 0)), (5, .int (nI z))] [] (wm cy S I2 L2 R2 ++ (w9 ++ wlo cy S G)) c' s') : JG RL cL_law 9 cy room_1 (ExL b Lx xs) FinL 1681 [(0, .ref b), (1, .ref (ka S 0 0)), (2, .ref (ka S 30 0)), (3, .ref (ka S 80 0)), (4, .ref (ka S 81 0)), (5, .int (nI z))] [] (wm cy S I2 L2 R2 ++ (wc cy S I L R LP ++ wlo cy S G)) cells slots := by
  have hl31 : lg < 2 ^ 31 := by omega
  rcases lt_or (mS m) p1 with ⟨s, hs, rfl⟩ | hx
  · skip
    by_cases hv : p2 = 0 ∨ (5 ≤ p2 ∧ p2 ≤ 60)
    · skip
      refine JG_aload_n 1 rfl dL_law_1681 ?_
      refine JG_aload_n 0 rfl dL_law_1682 ?_
      refine JG_iload 5 rfl dL_law_1683 ?_
      refine JG_iconst (v := 1) (by decide) dL_law_1685 ?_
      refine JG_iadd dL_law_1686 ?_
      refine JG_topeq (nI (z + 1)) (by exact nI_add z 1) ?_
      refine JG_sld (vp_in_nI (by omega) (by omega)) dL_law_1687 ?_
      refine JG_topeq (nI s) (by rw [nI_toNat (by omega)]; exact e1) ?_
      refine JG_aload_n 0 rfl dL_law_1688 ?_
      refine JG_iload 5 rfl dL_law_1689 ?_
      refine JG_iconst (v := 2) (by decide) dL_law_1691 ?_
      refine JG_iadd dL_law_1692 ?_
      refine JG_topeq (nI (z + 2)) (by exact nI_add z 2) ?_
      refine JG_sld (vp_in_nI (by omega) (by omega)) dL_law_1693 ?_
      refine JG_topeq p2 (by rw [nI_toNat (by omega)]; exact e2) ?_
      refine JG_aload_n 3 rfl dL_law_1694 ?_
      refine JG_callH (As := [.ref (ka S 0 0), .int (nI s), .int p2, .ref (ka S 80 0)]) (rest := []) (wm cy S I2 L2 R2) [] dL_law_1695 (w_setWatch_s  (c_X7_setWatch_s hR hI (by omega) hlg hs hv)) (by rw [List.append_nil]) lm_L_221 kw_L_setWatch kiniL ks_L_setWatch kdL_setWatch ⟨Nat.le_of_ble_eq_true rfl, Nat.le_of_ble_eq_true rfl⟩ (by show cells + 0 ≤ 603072; omega) (by show slots + 0 ≤ 7186538; omega) (Nat.le_of_ble_eq_true rfl) (fun _ w8 r1 => ?_)
      obtain ⟨rfl, w9, hP, rfl⟩ := r1
      refine JG_eq (w' := wm cy S I2 L2 R2 ++ (w9 ++ wlo cy S (ku G 80 0 0 (m.1 44 s).toInt64))) (st' := [.int 0]) (by rw [List.append_nil]) rfl rfl ?_
      refine JG_istore (lv' := [(0, .ref b), (1, .ref (ka S 0 0)), (2, .ref (ka S 30 0)), (3, .ref (ka S 80 0)), (4, .ref (ka S 81 0)), (5, .int (nI z)), (6, .int 0)]) (by decide) rfl dL_law_1698 ?_
      refine JG_aload_n 2 rfl dL_law_1700 ?_
      refine JG_aload_n 0 rfl dL_law_1701 ?_
      refine JG_iload 5 rfl dL_law_1702 ?_
      refine JG_iconst (v := 1) (by decide) dL_law_1704 ?_
      refine JG_iadd dL_law_1705 ?_
      refine JG_topeq (nI (z + 1)) (by exact nI_add z 1) ?_
      refine JG_sld (vp_in_nI (by omega) (by omega)) dL_law_1706 ?_
      refine JG_topeq (nI s) (by rw [nI_toNat (by omega)]; exact e1) ?_
      refine JG_aload_n 0 rfl dL_law_1707 ?_
      refine JG_iload 5 rfl dL_law_1708 ?_
      refine JG_iconst (v := 2) (by decide) dL_law_1710 ?_
      refine JG_iadd dL_law_1711 ?_
      refine JG_topeq (nI (z + 2)) (by exact nI_add z 2) ?_
      refine JG_sld (vp_in_nI (by omega) (by omega)) dL_law_1712 ?_
      refine JG_topeq p2 (by rw [nI_toNat (by omega)]; exact e2) ?_
      refine JG_callX8 (As := [.int (nI s), .int p2]) (rest := []) [] (w9 ++ wlo cy S (ku G 80 0 0 (m.1 44 s).toInt64)) dL_law_1713 (c_X8_setWatch_s hM hR hI (by omega) hs hv) rfl rfl lm_L_223 kc_yX8_setWatch ki_yX8_setWatch kv_yX8_setWatch kd_yX8_setWatch ⟨Nat.le_of_ble_eq_true rfl, Nat.le_of_ble_eq_true rfl⟩ (by show (cells + 0) + 0 ≤ 603072; omega) (by show (slots + 0) + 0 ≤ 7186538; omega) (Nat.le_of_ble_eq_true rfl) (fun _ w8 r2 => ?_)
      obtain ⟨rfl, I3, L3, rfl, hM3⟩ := r2
      refine JG_eq (w' := wm cy S I3 L3 R2 ++ (w9 ++ wlo cy S (ku G 80 0 0 (m.1 44 s).toInt64))) (st' := [.int (m.1 44 s)]) rfl rfl rfl ?_
      refine JG_istore (lv' := [(0, .ref b), (1, .ref (ka S 0 0)), (2, .ref (ka S 30 0)), (3, .ref (ka S 80 0)), (4, .ref (ka S 81 0)), (5, .int (nI z)), (6, .int 0), (7, .int (m.1 44 s))]) (by decide) rfl dL_law_1716 ?_
      refine JG_aload_n 2 rfl dL_law_1718 ?_
      refine JG_callX8 (As := []) (rest := []) [] (w9 ++ wlo cy S (ku G 80 0 0 (m.1 44 s).toInt64)) dL_law_1719 (c_X8_thrown hM3) rfl rfl lm_L_133 kc_yX8_thrown ki_yX8_thrown kv_yX8_thrown kd_yX8_thrown ⟨Nat.le_of_ble_eq_true rfl, Nat.le_of_ble_eq_true rfl⟩ (by show ((cells + 0) + 0) + 0 ≤ 603072; omega) (by show ((slots + 0) + 0) + 0 ≤ 7186538; omega) (Nat.le_of_ble_eq_true rfl) (fun _ w8 r4 => ?_)
      obtain ⟨rfl, I5, L5, rfl, hM5⟩ := r4
      refine JG_eq (w' := wm cy S I5 L5 R2 ++ (w9 ++ wlo cy S (ku G 80 0 0 (m.1 44 s).toInt64))) (st' := [.int 0]) rfl rfl rfl ?_
      refine JG_iload 6 rfl dL_law_1722 ?_
      refine JG_icmp_eq 1729 (by decide) dL_law_1724 (fun c6 => ?_) (fun c6 => ?_)
      rotate_left
      · exact absurd (by decide) c6
      refine JG_iload 6 rfl dL_law_1729 ?_
      refine JG_if_ne 1746 (by decide) dL_law_1731 (fun c7 => ?_) (fun c7 => ?_)
      · exact absurd (by decide) c7
      refine JG_aload_n 3 rfl dL_law_1734 ?_
      refine JG_iconst (v := 0) (by decide) dL_law_1735 ?_
      refine JG_eq (w' := (wm cy S I5 L5 R2 ++ w9) ++ wlo cy S (ku G 80 0 0 (m.1 44 s).toInt64)) (List.append_assoc _ _ _).symm rfl rfl ?_
      refine JG_laldO dL_law_1736 ?_
      refine JG_eq (w' := wm cy S I5 L5 R2 ++ (w9 ++ wlo cy S (ku G 80 0 0 (m.1 44 s).toInt64))) (st' := [.long (m.1 44 s).toInt64]) (List.append_assoc _ _ _) rfl (by rw [ku_eq]) ?_
      refine JG_iload 7 rfl dL_law_1737 ?_
      refine JG_i2l dL_law_1739 ?_
      refine JG_lcmp (rfl) dL_law_1740 ?_
      refine JG_if_eq 1746 (by decide) dL_law_1741 (fun c8 => ?_) (fun c8 => ?_)
      rotate_left
      · exact absurd (by decide) c8
      refine JG_goto 2268 (by decide) dL_law_1746 ?_
      refine JG_sub (lv' := [(0, .ref b), (1, .ref (ka S 0 0)), (2, .ref (ka S 30 0)), (3, .ref (ka S 80 0)), (4, .ref (ka S 81 0)), (5, .int (nI z))]) [0, 1, 2, 3, 4, 5] rfl ?_
      exact kk (ms (ms m 44 s p2) 45 s (m.1 30 26)) _ _ _ _ _ _ _ _ ⟨LP, rc, hP⟩ (inv_sw hI hv) (by omega) hM5 (by omega) (by omega)
    · skip
      refine JG_aload_n 1 rfl dL_law_1681 ?_
      refine JG_aload_n 0 rfl dL_law_1682 ?_
      refine JG_iload 5 rfl dL_law_1683 ?_
      refine JG_iconst (v := 1) (by decide) dL_law_1685 ?_
      refine JG_iadd dL_law_1686 ?_
      refine JG_topeq (nI (z + 1)) (by exact nI_add z 1) ?_
      refine JG_sld (vp_in_nI (by omega) (by omega)) dL_law_1687 ?_
      refine JG_topeq (nI s) (by rw [nI_toNat (by omega)]; exact e1) ?_
      refine JG_aload_n 0 rfl dL_law_1688 ?_
      refine JG_iload 5 rfl dL_law_1689 ?_
      refine JG_iconst (v := 2) (by decide) dL_law_1691 ?_
      refine JG_iadd dL_law_1692 ?_
      refine JG_topeq (nI (z + 2)) (by exact nI_add z 2) ?_
      refine JG_sld (vp_in_nI (by omega) (by omega)) dL_law_1693 ?_
      refine JG_topeq p2 (by rw [nI_toNat (by omega)]; exact e2) ?_
      refine JG_aload_n 3 rfl dL_law_1694 ?_
      refine JG_callH (As := [.ref (ka S 0 0), .int (nI s), .int p2, .ref (ka S 80 0)]) (rest := []) (wm cy S I2 L2 R2) [] dL_law_1695 (w_setWatch_2 (c_X7_setWatch_y hR hI (by omega) hlg hs hv)) (by rw [List.append_nil]) lm_L_221 kw_L_setWatch kiniL ks_L_setWatch kdL_setWatch ⟨Nat.le_of_ble_eq_true rfl, Nat.le_of_ble_eq_true rfl⟩ (by show cells + 1 ≤ 603072; omega) (by show slots + 6 ≤ 7186538; omega) (Nat.le_of_ble_eq_true rfl) (fun _ w8 r1 => ?_)
      obtain ⟨rfl, w9, hP, rfl⟩ := r1
      refine JG_eq (w' := wm cy S I2 L2 R2 ++ (w9 ++ wlo cy S G)) (st' := [.int 2]) (by rw [List.append_nil]) rfl rfl ?_
      refine JG_istore (lv' := [(0, .ref b), (1, .ref (ka S 0 0)), (2, .ref (ka S 30 0)), (3, .ref (ka S 80 0)), (4, .ref (ka S 81 0)), (5, .int (nI z)), (6, .int 2)]) (by decide) rfl dL_law_1698 ?_
      refine JG_aload_n 2 rfl dL_law_1700 ?_
      refine JG_aload_n 0 rfl dL_law_1701 ?_
      refine JG_iload 5 rfl dL_law_1702 ?_
      refine JG_iconst (v := 1) (by decide) dL_law_1704 ?_
      refine JG_iadd dL_law_1705 ?_
      refine JG_topeq (nI (z + 1)) (by exact nI_add z 1) ?_
      refine JG_sld (vp_in_nI (by omega) (by omega)) dL_law_1706 ?_
      refine JG_topeq (nI s) (by rw [nI_toNat (by omega)]; exact e1) ?_
      refine JG_aload_n 0 rfl dL_law_1707 ?_
      refine JG_iload 5 rfl dL_law_1708 ?_
      refine JG_iconst (v := 2) (by decide) dL_law_1710 ?_
      refine JG_iadd dL_law_1711 ?_
      refine JG_topeq (nI (z + 2)) (by exact nI_add z 2) ?_
      refine JG_sld (vp_in_nI (by omega) (by omega)) dL_law_1712 ?_
      refine JG_topeq p2 (by rw [nI_toNat (by omega)]; exact e2) ?_
      refine JG_callX8 (As := [.int (nI s), .int p2]) (rest := []) [] (w9 ++ wlo cy S G) dL_law_1713 (c_X8_setWatch_y hM hR hI (by omega) hs hv) rfl rfl lm_L_223 kc_yX8_setWatch ki_yX8_setWatch kv_yX8_setWatch kd_yX8_setWatch ⟨Nat.le_of_ble_eq_true rfl, Nat.le_of_ble_eq_true rfl⟩ (by show (cells + 1) + 0 ≤ 603072; omega) (by show (slots + 6) + 0 ≤ 7186538; omega) (Nat.le_of_ble_eq_true rfl) (fun _ w8 r2 => ?_)
      obtain ⟨rfl, I3, L3, rfl, hM3⟩ := r2
      refine JG_eq (w' := wm cy S I3 L3 R2 ++ (w9 ++ wlo cy S G)) (st' := [.int 0]) rfl rfl rfl ?_
      refine JG_istore (lv' := [(0, .ref b), (1, .ref (ka S 0 0)), (2, .ref (ka S 30 0)), (3, .ref (ka S 80 0)), (4, .ref (ka S 81 0)), (5, .int (nI z)), (6, .int 2), (7, .int 0)]) (by decide) rfl dL_law_1716 ?_
      refine JG_aload_n 2 rfl dL_law_1718 ?_
      refine JG_callX8 (As := []) (rest := []) [] (w9 ++ wlo cy S G) dL_law_1719 (c_X8_thrown hM3) rfl rfl lm_L_133 kc_yX8_thrown ki_yX8_thrown kv_yX8_thrown kd_yX8_thrown ⟨Nat.le_of_ble_eq_true rfl, Nat.le_of_ble_eq_true rfl⟩ (by show ((cells + 1) + 0) + 0 ≤ 603072; omega) (by show ((slots + 6) + 0) + 0 ≤ 7186538; omega) (Nat.le_of_ble_eq_true rfl) (fun _ w8 r4 => ?_)
      obtain ⟨rfl, I5, L5, rfl, hM5⟩ := r4
      refine JG_eq (w' := wm cy S I5 L5 R2 ++ (w9 ++ wlo cy S G)) (st' := [.int 2]) rfl rfl rfl ?_
      refine JG_iload 6 rfl dL_law_1722 ?_
      refine JG_icmp_eq 1729 (by decide) dL_law_1724 (fun c6 => ?_) (fun c6 => ?_)
      rotate_left
      · exact absurd (by decide) c6
      refine JG_iload 6 rfl dL_law_1729 ?_
      refine JG_if_ne 1746 (by decide) dL_law_1731 (fun c7 => ?_) (fun c7 => ?_)
      rotate_left
      · exact absurd c7 (by decide)
      refine JG_goto 2268 (by decide) dL_law_1746 ?_
      refine JG_sub (lv' := [(0, .ref b), (1, .ref (ka S 0 0)), (2, .ref (ka S 30 0)), (3, .ref (ka S 80 0)), (4, .ref (ka S 81 0)), (5, .int (nI z))]) [0, 1, 2, 3, 4, 5] rfl ?_
      exact kk m _ _ _ _ _ _ _ _ ⟨LP, rc, hP⟩ hI (by omega) hM5 (by omega) (by omega)
  · skip
    refine JG_aload_n 1 rfl dL_law_1681 ?_
    refine JG_aload_n 0 rfl dL_law_1682 ?_
    refine JG_iload 5 rfl dL_law_1683 ?_
    refine JG_iconst (v := 1) (by decide) dL_law_1685 ?_
    refine JG_iadd dL_law_1686 ?_
    refine JG_topeq (nI (z + 1)) (by exact nI_add z 1) ?_
    refine JG_sld (vp_in_nI (by omega) (by omega)) dL_law_1687 ?_
    refine JG_topeq p1 (by rw [nI_toNat (by omega)]; exact e1) ?_
    refine JG_aload_n 0 rfl dL_law_1688 ?_
    refine JG_iload 5 rfl dL_law_1689 ?_
    refine JG_iconst (v := 2) (by decide) dL_law_1691 ?_
    refine JG_iadd dL_law_1692 ?_
    refine JG_topeq (nI (z + 2)) (by exact nI_add z 2) ?_
    refine JG_sld (vp_in_nI (by omega) (by omega)) dL_law_1693 ?_
    refine JG_topeq p2 (by rw [nI_toNat (by omega)]; exact e2) ?_
    refine JG_aload_n 3 rfl dL_law_1694 ?_
    refine JG_callH (As := [.ref (ka S 0 0), .int p1, .int p2, .ref (ka S 80 0)]) (rest := []) (wm cy S I2 L2 R2) [] dL_law_1695 (w_setWatch_1 (c_X7_setWatch_x hR hI (by omega) hlg hx)) (by rw [List.append_nil]) lm_L_221 kw_L_setWatch kiniL ks_L_setWatch kdL_setWatch ⟨Nat.le_of_ble_eq_true rfl, Nat.le_of_ble_eq_true rfl⟩ (by show cells + 1 ≤ 603072; omega) (by show slots + 6 ≤ 7186538; omega) (Nat.le_of_ble_eq_true rfl) (fun _ w8 r1 => ?_)
    obtain ⟨rfl, w9, hP, rfl⟩ := r1
    refine JG_eq (w' := wm cy S I2 L2 R2 ++ (w9 ++ wlo cy S G)) (st' := [.int 1]) (by rw [List.append_nil]) rfl rfl ?_
    refine JG_istore (lv' := [(0, .ref b), (1, .ref (ka S 0 0)), (2, .ref (ka S 30 0)), (3, .ref (ka S 80 0)), (4, .ref (ka S 81 0)), (5, .int (nI z)), (6, .int 1)]) (by decide) rfl dL_law_1698 ?_
    refine JG_aload_n 2 rfl dL_law_1700 ?_
    refine JG_aload_n 0 rfl dL_law_1701 ?_
    refine JG_iload 5 rfl dL_law_1702 ?_
    refine JG_iconst (v := 1) (by decide) dL_law_1704 ?_
    refine JG_iadd dL_law_1705 ?_
    refine JG_topeq (nI (z + 1)) (by exact nI_add z 1) ?_
    refine JG_sld (vp_in_nI (by omega) (by omega)) dL_law_1706 ?_
    refine JG_topeq p1 (by rw [nI_toNat (by omega)]; exact e1) ?_
    refine JG_aload_n 0 rfl dL_law_1707 ?_
    refine JG_iload 5 rfl dL_law_1708 ?_
    refine JG_iconst (v := 2) (by decide) dL_law_1710 ?_
    refine JG_iadd dL_law_1711 ?_
    refine JG_topeq (nI (z + 2)) (by exact nI_add z 2) ?_
    refine JG_sld (vp_in_nI (by omega) (by omega)) dL_law_1712 ?_
    refine JG_topeq p2 (by rw [nI_toNat (by omega)]; exact e2) ?_
    refine JG_callX8 (As := [.int p1, .int p2]) (rest := []) [] (w9 ++ wlo cy S G) dL_law_1713 (c_X8_setWatch_x hM hR hI (by omega) hx) rfl rfl lm_L_223 kc_yX8_setWatch ki_yX8_setWatch kv_yX8_setWatch kd_yX8_setWatch ⟨Nat.le_of_ble_eq_true rfl, Nat.le_of_ble_eq_true rfl⟩ (by show (cells + 1) + 0 ≤ 603072; omega) (by show (slots + 6) + 0 ≤ 7186538; omega) (Nat.le_of_ble_eq_true rfl) (fun _ w8 r2 => ?_)
    obtain ⟨rfl, I3, L3, rfl, hM3⟩ := r2
    refine JG_eq (w' := wm cy S I3 L3 R2 ++ (w9 ++ wlo cy S G)) (st' := [.int 0]) rfl rfl rfl ?_
    refine JG_istore (lv' := [(0, .ref b), (1, .ref (ka S 0 0)), (2, .ref (ka S 30 0)), (3, .ref (ka S 80 0)), (4, .ref (ka S 81 0)), (5, .int (nI z)), (6, .int 1), (7, .int 0)]) (by decide) rfl dL_law_1716 ?_
    refine JG_aload_n 2 rfl dL_law_1718 ?_
    refine JG_callX8 (As := []) (rest := []) [] (w9 ++ wlo cy S G) dL_law_1719 (c_X8_thrown hM3) rfl rfl lm_L_133 kc_yX8_thrown ki_yX8_thrown kv_yX8_thrown kd_yX8_thrown ⟨Nat.le_of_ble_eq_true rfl, Nat.le_of_ble_eq_true rfl⟩ (by show ((cells + 1) + 0) + 0 ≤ 603072; omega) (by show ((slots + 6) + 0) + 0 ≤ 7186538; omega) (Nat.le_of_ble_eq_true rfl) (fun _ w8 r4 => ?_)
    obtain ⟨rfl, I5, L5, rfl, hM5⟩ := r4
    refine JG_eq (w' := wm cy S I5 L5 R2 ++ (w9 ++ wlo cy S G)) (st' := [.int 1]) rfl rfl rfl ?_
    refine JG_iload 6 rfl dL_law_1722 ?_
    refine JG_icmp_eq 1729 (by decide) dL_law_1724 (fun c6 => ?_) (fun c6 => ?_)
    rotate_left
    · exact absurd (by decide) c6
    refine JG_iload 6 rfl dL_law_1729 ?_
    refine JG_if_ne 1746 (by decide) dL_law_1731 (fun c7 => ?_) (fun c7 => ?_)
    rotate_left
    · exact absurd c7 (by decide)
    refine JG_goto 2268 (by decide) dL_law_1746 ?_
    refine JG_sub (lv' := [(0, .ref b), (1, .ref (ka S 0 0)), (2, .ref (ka S 30 0)), (3, .ref (ka S 80 0)), (4, .ref (ka S 81 0)), (5, .int (nI z))]) [0, 1, 2, 3, 4, 5] rfl ?_
    exact kk m _ _ _ _ _ _ _ _ ⟨LP, rc, hP⟩ hI (by omega) hM5 (by omega) (by omega)

set_option maxRecDepth 20000 in
set_option maxHeartbeats 1000000 in
theorem lc_report {cy : Nat → ClassId} {S : Nat → Nat → Nat} {I I2 : kI} {L L2 G : kL} {R R2 : kRf} {LP : List Nat} {m : Mu} {rc : Nat → Nat} {ln qu : List Nat} {lg B : Nat} {cd : Int32} {b Lx z cells slots : Nat} {xs : Nat → Int32} {p1 : Int32} (hR : Rel m I L R LP rc ln qu lg) (hI : Inv m B) (hB : B + 100000 < 2 ^ 30) (hlg : lg < 2 ^ 30) (hM : MR m cd I2 L2) (hz : z + 4 < Lx) (hLx : Lx ≤ 2560) (hcl : cells + 101 ≤ 603072) (hsl : slots + 1307 ≤ 7186538) (e1 : xs (z + 1) = p1) (kk : ∀ (m' : Mu) (B' : Nat) (w9 : va_W) (I2 : kI) (L2 : kL) (cd : Int32) (G : kL) (c' s' : Nat), (∃ LP rc, RelX cy S LP rc m' w9) → Inv m' B' → B' ≤ B + 90000 → MR m' cd I2 L2 → c' ≤ cells + 100 → s' ≤ slots + 1300 → JG RL cL_law 9 cy room_1 (ExL b Lx xs) FinL 2268 [(0, .ref b), (1, .ref (ka S 0 0)), (2, .ref (ka S 30 0)), (3, .ref (ka S 80 0)), (4, .ref (ka S 81 0)), (5, .int (nI z))] [] (wm cy S I2 L2 R2 ++ (w9 ++ wlo cy S G)) c' s') : JG RL cL_law 9 cy room_1 (ExL b Lx xs) FinL 1749 [(0, .ref b), (1, .ref (ka S 0 0)), (2, .ref (ka S 30 0)), (3, .ref (ka S 80 0)), (4, .ref (ka S 81 0)), (5, .int (nI z))] [] (wm cy S I2 L2 R2 ++ (wc cy S I L R LP ++ wlo cy S G)) cells slots := by
  have hl31 : lg < 2 ^ 31 := by omega
  rcases lt_or (mS m) p1 with ⟨s, hs, rfl⟩ | hx
  · skip
    by_cases ho : m.1 43 s = 0
    · skip
      by_cases hw : 0 < m.1 44 s
      · skip
        refine JG_aload_n 1 rfl dL_law_1749 ?_
        refine JG_aload_n 0 rfl dL_law_1750 ?_
        refine JG_iload 5 rfl dL_law_1751 ?_
        refine JG_iconst (v := 1) (by decide) dL_law_1753 ?_
        refine JG_iadd dL_law_1754 ?_
        refine JG_topeq (nI (z + 1)) (by exact nI_add z 1) ?_
        refine JG_sld (vp_in_nI (by omega) (by omega)) dL_law_1755 ?_
        refine JG_topeq (nI s) (by rw [nI_toNat (by omega)]; exact e1) ?_
        refine JG_aload_n 3 rfl dL_law_1756 ?_
        refine JG_callH (As := [.ref (ka S 0 0), .int (nI s), .ref (ka S 80 0)]) (rest := []) (wm cy S I2 L2 R2) [] dL_law_1757 (w_report_s  (c_X7_report_s hR hI (by omega) hlg hs ho hw)) (by rw [List.append_nil]) lm_L_224 kw_L_report kiniL ks_L_report kdL_report ⟨Nat.le_of_ble_eq_true rfl, Nat.le_of_ble_eq_true rfl⟩ (by show cells + 0 ≤ 603072; omega) (by show slots + 0 ≤ 7186538; omega) (Nat.le_of_ble_eq_true rfl) (fun _ w8 r1 => ?_)
        obtain ⟨rfl, w9, hP, rfl⟩ := r1
        refine JG_eq (w' := wm cy S I2 L2 R2 ++ (w9 ++ wlo cy S (ku G 80 0 0 (m.1 30 26 - m.1 45 s).toInt64))) (st' := [.int 0]) (by rw [List.append_nil]) rfl rfl ?_
        refine JG_istore (lv' := [(0, .ref b), (1, .ref (ka S 0 0)), (2, .ref (ka S 30 0)), (3, .ref (ka S 80 0)), (4, .ref (ka S 81 0)), (5, .int (nI z)), (6, .int 0)]) (by decide) rfl dL_law_1760 ?_
        refine JG_aload_n 2 rfl dL_law_1762 ?_
        refine JG_aload_n 0 rfl dL_law_1763 ?_
        refine JG_iload 5 rfl dL_law_1764 ?_
        refine JG_iconst (v := 1) (by decide) dL_law_1766 ?_
        refine JG_iadd dL_law_1767 ?_
        refine JG_topeq (nI (z + 1)) (by exact nI_add z 1) ?_
        refine JG_sld (vp_in_nI (by omega) (by omega)) dL_law_1768 ?_
        refine JG_topeq (nI s) (by rw [nI_toNat (by omega)]; exact e1) ?_
        refine JG_callX8 (As := [.int (nI s)]) (rest := []) [] (w9 ++ wlo cy S (ku G 80 0 0 (m.1 30 26 - m.1 45 s).toInt64)) dL_law_1769 (c_X8_report_s hM hR hI (by omega) hs ho hw) rfl rfl lm_L_226 kc_yX8_report ki_yX8_report kv_yX8_report kd_yX8_report ⟨Nat.le_of_ble_eq_true rfl, Nat.le_of_ble_eq_true rfl⟩ (by show (cells + 0) + 0 ≤ 603072; omega) (by show (slots + 0) + 0 ≤ 7186538; omega) (Nat.le_of_ble_eq_true rfl) (fun _ w8 r2 => ?_)
        obtain ⟨rfl, I3, L3, rfl, hM3⟩ := r2
        refine JG_eq (w' := wm cy S I3 L3 R2 ++ (w9 ++ wlo cy S (ku G 80 0 0 (m.1 30 26 - m.1 45 s).toInt64))) (st' := [.int (m.1 30 26 - m.1 45 s)]) rfl rfl rfl ?_
        refine JG_istore (lv' := [(0, .ref b), (1, .ref (ka S 0 0)), (2, .ref (ka S 30 0)), (3, .ref (ka S 80 0)), (4, .ref (ka S 81 0)), (5, .int (nI z)), (6, .int 0), (7, .int (m.1 30 26 - m.1 45 s))]) (by decide) rfl dL_law_1772 ?_
        refine JG_aload_n 2 rfl dL_law_1774 ?_
        refine JG_callX8 (As := []) (rest := []) [] (w9 ++ wlo cy S (ku G 80 0 0 (m.1 30 26 - m.1 45 s).toInt64)) dL_law_1775 (c_X8_thrown hM3) rfl rfl lm_L_133 kc_yX8_thrown ki_yX8_thrown kv_yX8_thrown kd_yX8_thrown ⟨Nat.le_of_ble_eq_true rfl, Nat.le_of_ble_eq_true rfl⟩ (by show ((cells + 0) + 0) + 0 ≤ 603072; omega) (by show ((slots + 0) + 0) + 0 ≤ 7186538; omega) (Nat.le_of_ble_eq_true rfl) (fun _ w8 r4 => ?_)
        obtain ⟨rfl, I5, L5, rfl, hM5⟩ := r4
        refine JG_eq (w' := wm cy S I5 L5 R2 ++ (w9 ++ wlo cy S (ku G 80 0 0 (m.1 30 26 - m.1 45 s).toInt64))) (st' := [.int 0]) rfl rfl rfl ?_
        refine JG_iload 6 rfl dL_law_1778 ?_
        refine JG_icmp_eq 1785 (by decide) dL_law_1780 (fun c6 => ?_) (fun c6 => ?_)
        rotate_left
        · exact absurd (by decide) c6
        refine JG_iload 6 rfl dL_law_1785 ?_
        refine JG_if_ne 1802 (by decide) dL_law_1787 (fun c7 => ?_) (fun c7 => ?_)
        · exact absurd (by decide) c7
        refine JG_aload_n 3 rfl dL_law_1790 ?_
        refine JG_iconst (v := 0) (by decide) dL_law_1791 ?_
        refine JG_eq (w' := (wm cy S I5 L5 R2 ++ w9) ++ wlo cy S (ku G 80 0 0 (m.1 30 26 - m.1 45 s).toInt64)) (List.append_assoc _ _ _).symm rfl rfl ?_
        refine JG_laldO dL_law_1792 ?_
        refine JG_eq (w' := wm cy S I5 L5 R2 ++ (w9 ++ wlo cy S (ku G 80 0 0 (m.1 30 26 - m.1 45 s).toInt64))) (st' := [.long (m.1 30 26 - m.1 45 s).toInt64]) (List.append_assoc _ _ _) rfl (by rw [ku_eq]) ?_
        refine JG_iload 7 rfl dL_law_1793 ?_
        refine JG_i2l dL_law_1795 ?_
        refine JG_lcmp (rfl) dL_law_1796 ?_
        refine JG_if_eq 1802 (by decide) dL_law_1797 (fun c8 => ?_) (fun c8 => ?_)
        rotate_left
        · exact absurd (by decide) c8
        refine JG_goto 2268 (by decide) dL_law_1802 ?_
        refine JG_sub (lv' := [(0, .ref b), (1, .ref (ka S 0 0)), (2, .ref (ka S 30 0)), (3, .ref (ka S 80 0)), (4, .ref (ka S 81 0)), (5, .int (nI z))]) [0, 1, 2, 3, 4, 5] rfl ?_
        exact kk (ms m 45 s (m.1 30 26)) _ _ _ _ _ _ _ _ ⟨LP, rc, hP⟩ hI (by omega) hM5 (by omega) (by omega)
      · skip
        refine JG_aload_n 1 rfl dL_law_1749 ?_
        refine JG_aload_n 0 rfl dL_law_1750 ?_
        refine JG_iload 5 rfl dL_law_1751 ?_
        refine JG_iconst (v := 1) (by decide) dL_law_1753 ?_
        refine JG_iadd dL_law_1754 ?_
        refine JG_topeq (nI (z + 1)) (by exact nI_add z 1) ?_
        refine JG_sld (vp_in_nI (by omega) (by omega)) dL_law_1755 ?_
        refine JG_topeq (nI s) (by rw [nI_toNat (by omega)]; exact e1) ?_
        refine JG_aload_n 3 rfl dL_law_1756 ?_
        refine JG_callH (As := [.ref (ka S 0 0), .int (nI s), .ref (ka S 80 0)]) (rest := []) (wm cy S I2 L2 R2) [] dL_law_1757 (w_report_2 (c_X7_report_z hR hI (by omega) hlg hs ho hw)) (by rw [List.append_nil]) lm_L_224 kw_L_report kiniL ks_L_report kdL_report ⟨Nat.le_of_ble_eq_true rfl, Nat.le_of_ble_eq_true rfl⟩ (by show cells + 1 ≤ 603072; omega) (by show slots + 6 ≤ 7186538; omega) (Nat.le_of_ble_eq_true rfl) (fun _ w8 r1 => ?_)
        obtain ⟨rfl, w9, hP, rfl⟩ := r1
        refine JG_eq (w' := wm cy S I2 L2 R2 ++ (w9 ++ wlo cy S G)) (st' := [.int 2]) (by rw [List.append_nil]) rfl rfl ?_
        refine JG_istore (lv' := [(0, .ref b), (1, .ref (ka S 0 0)), (2, .ref (ka S 30 0)), (3, .ref (ka S 80 0)), (4, .ref (ka S 81 0)), (5, .int (nI z)), (6, .int 2)]) (by decide) rfl dL_law_1760 ?_
        refine JG_aload_n 2 rfl dL_law_1762 ?_
        refine JG_aload_n 0 rfl dL_law_1763 ?_
        refine JG_iload 5 rfl dL_law_1764 ?_
        refine JG_iconst (v := 1) (by decide) dL_law_1766 ?_
        refine JG_iadd dL_law_1767 ?_
        refine JG_topeq (nI (z + 1)) (by exact nI_add z 1) ?_
        refine JG_sld (vp_in_nI (by omega) (by omega)) dL_law_1768 ?_
        refine JG_topeq (nI s) (by rw [nI_toNat (by omega)]; exact e1) ?_
        refine JG_callX8 (As := [.int (nI s)]) (rest := []) [] (w9 ++ wlo cy S G) dL_law_1769 (c_X8_report_z hM hR hI (by omega) hs ho hw) rfl rfl lm_L_226 kc_yX8_report ki_yX8_report kv_yX8_report kd_yX8_report ⟨Nat.le_of_ble_eq_true rfl, Nat.le_of_ble_eq_true rfl⟩ (by show (cells + 1) + 0 ≤ 603072; omega) (by show (slots + 6) + 0 ≤ 7186538; omega) (Nat.le_of_ble_eq_true rfl) (fun _ w8 r2 => ?_)
        obtain ⟨rfl, I3, L3, rfl, hM3⟩ := r2
        refine JG_eq (w' := wm cy S I3 L3 R2 ++ (w9 ++ wlo cy S G)) (st' := [.int 0]) rfl rfl rfl ?_
        refine JG_istore (lv' := [(0, .ref b), (1, .ref (ka S 0 0)), (2, .ref (ka S 30 0)), (3, .ref (ka S 80 0)), (4, .ref (ka S 81 0)), (5, .int (nI z)), (6, .int 2), (7, .int 0)]) (by decide) rfl dL_law_1772 ?_
        refine JG_aload_n 2 rfl dL_law_1774 ?_
        refine JG_callX8 (As := []) (rest := []) [] (w9 ++ wlo cy S G) dL_law_1775 (c_X8_thrown hM3) rfl rfl lm_L_133 kc_yX8_thrown ki_yX8_thrown kv_yX8_thrown kd_yX8_thrown ⟨Nat.le_of_ble_eq_true rfl, Nat.le_of_ble_eq_true rfl⟩ (by show ((cells + 1) + 0) + 0 ≤ 603072; omega) (by show ((slots + 6) + 0) + 0 ≤ 7186538; omega) (Nat.le_of_ble_eq_true rfl) (fun _ w8 r4 => ?_)
        obtain ⟨rfl, I5, L5, rfl, hM5⟩ := r4
        refine JG_eq (w' := wm cy S I5 L5 R2 ++ (w9 ++ wlo cy S G)) (st' := [.int 2]) rfl rfl rfl ?_
        refine JG_iload 6 rfl dL_law_1778 ?_
        refine JG_icmp_eq 1785 (by decide) dL_law_1780 (fun c6 => ?_) (fun c6 => ?_)
        rotate_left
        · exact absurd (by decide) c6
        refine JG_iload 6 rfl dL_law_1785 ?_
        refine JG_if_ne 1802 (by decide) dL_law_1787 (fun c7 => ?_) (fun c7 => ?_)
        rotate_left
        · exact absurd c7 (by decide)
        refine JG_goto 2268 (by decide) dL_law_1802 ?_
        refine JG_sub (lv' := [(0, .ref b), (1, .ref (ka S 0 0)), (2, .ref (ka S 30 0)), (3, .ref (ka S 80 0)), (4, .ref (ka S 81 0)), (5, .int (nI z))]) [0, 1, 2, 3, 4, 5] rfl ?_
        exact kk m _ _ _ _ _ _ _ _ ⟨LP, rc, hP⟩ hI (by omega) hM5 (by omega) (by omega)
    · skip
      refine JG_aload_n 1 rfl dL_law_1749 ?_
      refine JG_aload_n 0 rfl dL_law_1750 ?_
      refine JG_iload 5 rfl dL_law_1751 ?_
      refine JG_iconst (v := 1) (by decide) dL_law_1753 ?_
      refine JG_iadd dL_law_1754 ?_
      refine JG_topeq (nI (z + 1)) (by exact nI_add z 1) ?_
      refine JG_sld (vp_in_nI (by omega) (by omega)) dL_law_1755 ?_
      refine JG_topeq (nI s) (by rw [nI_toNat (by omega)]; exact e1) ?_
      refine JG_aload_n 3 rfl dL_law_1756 ?_
      refine JG_callH (As := [.ref (ka S 0 0), .int (nI s), .ref (ka S 80 0)]) (rest := []) (wm cy S I2 L2 R2) [] dL_law_1757 (w_report_2 (c_X7_report_y hR hI (by omega) hlg hs ho)) (by rw [List.append_nil]) lm_L_224 kw_L_report kiniL ks_L_report kdL_report ⟨Nat.le_of_ble_eq_true rfl, Nat.le_of_ble_eq_true rfl⟩ (by show cells + 1 ≤ 603072; omega) (by show slots + 6 ≤ 7186538; omega) (Nat.le_of_ble_eq_true rfl) (fun _ w8 r1 => ?_)
      obtain ⟨rfl, w9, hP, rfl⟩ := r1
      refine JG_eq (w' := wm cy S I2 L2 R2 ++ (w9 ++ wlo cy S G)) (st' := [.int 2]) (by rw [List.append_nil]) rfl rfl ?_
      refine JG_istore (lv' := [(0, .ref b), (1, .ref (ka S 0 0)), (2, .ref (ka S 30 0)), (3, .ref (ka S 80 0)), (4, .ref (ka S 81 0)), (5, .int (nI z)), (6, .int 2)]) (by decide) rfl dL_law_1760 ?_
      refine JG_aload_n 2 rfl dL_law_1762 ?_
      refine JG_aload_n 0 rfl dL_law_1763 ?_
      refine JG_iload 5 rfl dL_law_1764 ?_
      refine JG_iconst (v := 1) (by decide) dL_law_1766 ?_
      refine JG_iadd dL_law_1767 ?_
      refine JG_topeq (nI (z + 1)) (by exact nI_add z 1) ?_
      refine JG_sld (vp_in_nI (by omega) (by omega)) dL_law_1768 ?_
      refine JG_topeq (nI s) (by rw [nI_toNat (by omega)]; exact e1) ?_
      refine JG_callX8 (As := [.int (nI s)]) (rest := []) [] (w9 ++ wlo cy S G) dL_law_1769 (c_X8_report_y hM hR hI (by omega) hs ho) rfl rfl lm_L_226 kc_yX8_report ki_yX8_report kv_yX8_report kd_yX8_report ⟨Nat.le_of_ble_eq_true rfl, Nat.le_of_ble_eq_true rfl⟩ (by show (cells + 1) + 0 ≤ 603072; omega) (by show (slots + 6) + 0 ≤ 7186538; omega) (Nat.le_of_ble_eq_true rfl) (fun _ w8 r2 => ?_)
      obtain ⟨rfl, I3, L3, rfl, hM3⟩ := r2
      refine JG_eq (w' := wm cy S I3 L3 R2 ++ (w9 ++ wlo cy S G)) (st' := [.int 0]) rfl rfl rfl ?_
      refine JG_istore (lv' := [(0, .ref b), (1, .ref (ka S 0 0)), (2, .ref (ka S 30 0)), (3, .ref (ka S 80 0)), (4, .ref (ka S 81 0)), (5, .int (nI z)), (6, .int 2), (7, .int 0)]) (by decide) rfl dL_law_1772 ?_
      refine JG_aload_n 2 rfl dL_law_1774 ?_
      refine JG_callX8 (As := []) (rest := []) [] (w9 ++ wlo cy S G) dL_law_1775 (c_X8_thrown hM3) rfl rfl lm_L_133 kc_yX8_thrown ki_yX8_thrown kv_yX8_thrown kd_yX8_thrown ⟨Nat.le_of_ble_eq_true rfl, Nat.le_of_ble_eq_true rfl⟩ (by show ((cells + 1) + 0) + 0 ≤ 603072; omega) (by show ((slots + 6) + 0) + 0 ≤ 7186538; omega) (Nat.le_of_ble_eq_true rfl) (fun _ w8 r4 => ?_)
      obtain ⟨rfl, I5, L5, rfl, hM5⟩ := r4
      refine JG_eq (w' := wm cy S I5 L5 R2 ++ (w9 ++ wlo cy S G)) (st' := [.int 2]) rfl rfl rfl ?_
      refine JG_iload 6 rfl dL_law_1778 ?_
      refine JG_icmp_eq 1785 (by decide) dL_law_1780 (fun c6 => ?_) (fun c6 => ?_)
      rotate_left
      · exact absurd (by decide) c6
      refine JG_iload 6 rfl dL_law_1785 ?_
      refine JG_if_ne 1802 (by decide) dL_law_1787 (fun c7 => ?_) (fun c7 => ?_)
      rotate_left
      · exact absurd c7 (by decide)
      refine JG_goto 2268 (by decide) dL_law_1802 ?_
      refine JG_sub (lv' := [(0, .ref b), (1, .ref (ka S 0 0)), (2, .ref (ka S 30 0)), (3, .ref (ka S 80 0)), (4, .ref (ka S 81 0)), (5, .int (nI z))]) [0, 1, 2, 3, 4, 5] rfl ?_
      exact kk m _ _ _ _ _ _ _ _ ⟨LP, rc, hP⟩ hI (by omega) hM5 (by omega) (by omega)
  · skip
    refine JG_aload_n 1 rfl dL_law_1749 ?_
    refine JG_aload_n 0 rfl dL_law_1750 ?_
    refine JG_iload 5 rfl dL_law_1751 ?_
    refine JG_iconst (v := 1) (by decide) dL_law_1753 ?_
    refine JG_iadd dL_law_1754 ?_
    refine JG_topeq (nI (z + 1)) (by exact nI_add z 1) ?_
    refine JG_sld (vp_in_nI (by omega) (by omega)) dL_law_1755 ?_
    refine JG_topeq p1 (by rw [nI_toNat (by omega)]; exact e1) ?_
    refine JG_aload_n 3 rfl dL_law_1756 ?_
    refine JG_callH (As := [.ref (ka S 0 0), .int p1, .ref (ka S 80 0)]) (rest := []) (wm cy S I2 L2 R2) [] dL_law_1757 (w_report_1 (c_X7_report_x hR hI (by omega) hlg hx)) (by rw [List.append_nil]) lm_L_224 kw_L_report kiniL ks_L_report kdL_report ⟨Nat.le_of_ble_eq_true rfl, Nat.le_of_ble_eq_true rfl⟩ (by show cells + 1 ≤ 603072; omega) (by show slots + 6 ≤ 7186538; omega) (Nat.le_of_ble_eq_true rfl) (fun _ w8 r1 => ?_)
    obtain ⟨rfl, w9, hP, rfl⟩ := r1
    refine JG_eq (w' := wm cy S I2 L2 R2 ++ (w9 ++ wlo cy S G)) (st' := [.int 1]) (by rw [List.append_nil]) rfl rfl ?_
    refine JG_istore (lv' := [(0, .ref b), (1, .ref (ka S 0 0)), (2, .ref (ka S 30 0)), (3, .ref (ka S 80 0)), (4, .ref (ka S 81 0)), (5, .int (nI z)), (6, .int 1)]) (by decide) rfl dL_law_1760 ?_
    refine JG_aload_n 2 rfl dL_law_1762 ?_
    refine JG_aload_n 0 rfl dL_law_1763 ?_
    refine JG_iload 5 rfl dL_law_1764 ?_
    refine JG_iconst (v := 1) (by decide) dL_law_1766 ?_
    refine JG_iadd dL_law_1767 ?_
    refine JG_topeq (nI (z + 1)) (by exact nI_add z 1) ?_
    refine JG_sld (vp_in_nI (by omega) (by omega)) dL_law_1768 ?_
    refine JG_topeq p1 (by rw [nI_toNat (by omega)]; exact e1) ?_
    refine JG_callX8 (As := [.int p1]) (rest := []) [] (w9 ++ wlo cy S G) dL_law_1769 (c_X8_report_x hM hR hI (by omega) hx) rfl rfl lm_L_226 kc_yX8_report ki_yX8_report kv_yX8_report kd_yX8_report ⟨Nat.le_of_ble_eq_true rfl, Nat.le_of_ble_eq_true rfl⟩ (by show (cells + 1) + 0 ≤ 603072; omega) (by show (slots + 6) + 0 ≤ 7186538; omega) (Nat.le_of_ble_eq_true rfl) (fun _ w8 r2 => ?_)
    obtain ⟨rfl, I3, L3, rfl, hM3⟩ := r2
    refine JG_eq (w' := wm cy S I3 L3 R2 ++ (w9 ++ wlo cy S G)) (st' := [.int 0]) rfl rfl rfl ?_
    refine JG_istore (lv' := [(0, .ref b), (1, .ref (ka S 0 0)), (2, .ref (ka S 30 0)), (3, .ref (ka S 80 0)), (4, .ref (ka S 81 0)), (5, .int (nI z)), (6, .int 1), (7, .int 0)]) (by decide) rfl dL_law_1772 ?_
    refine JG_aload_n 2 rfl dL_law_1774 ?_
    refine JG_callX8 (As := []) (rest := []) [] (w9 ++ wlo cy S G) dL_law_1775 (c_X8_thrown hM3) rfl rfl lm_L_133 kc_yX8_thrown ki_yX8_thrown kv_yX8_thrown kd_yX8_thrown ⟨Nat.le_of_ble_eq_true rfl, Nat.le_of_ble_eq_true rfl⟩ (by show ((cells + 1) + 0) + 0 ≤ 603072; omega) (by show ((slots + 6) + 0) + 0 ≤ 7186538; omega) (Nat.le_of_ble_eq_true rfl) (fun _ w8 r4 => ?_)
    obtain ⟨rfl, I5, L5, rfl, hM5⟩ := r4
    refine JG_eq (w' := wm cy S I5 L5 R2 ++ (w9 ++ wlo cy S G)) (st' := [.int 1]) rfl rfl rfl ?_
    refine JG_iload 6 rfl dL_law_1778 ?_
    refine JG_icmp_eq 1785 (by decide) dL_law_1780 (fun c6 => ?_) (fun c6 => ?_)
    rotate_left
    · exact absurd (by decide) c6
    refine JG_iload 6 rfl dL_law_1785 ?_
    refine JG_if_ne 1802 (by decide) dL_law_1787 (fun c7 => ?_) (fun c7 => ?_)
    rotate_left
    · exact absurd c7 (by decide)
    refine JG_goto 2268 (by decide) dL_law_1802 ?_
    refine JG_sub (lv' := [(0, .ref b), (1, .ref (ka S 0 0)), (2, .ref (ka S 30 0)), (3, .ref (ka S 80 0)), (4, .ref (ka S 81 0)), (5, .int (nI z))]) [0, 1, 2, 3, 4, 5] rfl ?_
    exact kk m _ _ _ _ _ _ _ _ ⟨LP, rc, hP⟩ hI (by omega) hM5 (by omega) (by omega)

set_option maxRecDepth 20000 in
set_option maxHeartbeats 1000000 in
theorem lc_sinceReport {cy : Nat → ClassId} {S : Nat → Nat → Nat} {I I2 : kI} {L L2 G : kL} {R R2 : kRf} {LP : List Nat} {m : Mu} {rc : Nat → Nat} {ln qu : List Nat} {lg B : Nat} {cd : Int32} {b Lx z cells slots : Nat} {xs : Nat → Int32} {p1 : Int32} (hR : Rel m I L R LP rc ln qu lg) (hI : Inv m B) (hB : B + 100000 < 2 ^ 30) (hlg : lg < 2 ^ 30) (hM : MR m cd I2 L2) (hz : z + 4 < Lx) (hLx : Lx ≤ 2560) (hcl : cells + 101 ≤ 603072) (hsl : slots + 1307 ≤ 7186538) (e1 : xs (z + 1) = p1) (kk : ∀ (m' : Mu) (B' : Nat) (w9 : va_W) (I2 : kI) (L2 : kL) (cd : Int32) (G : kL) (c' s' : Nat), (∃ LP rc, RelX cy S LP rc m' w9) → Inv m' B' → B' ≤ B + 90000 → MR m' cd I2 L2 → c' ≤ cells + 100 → s' ≤ slots + 1300 → JG RL cL_law 9 cy room_1 (ExL b Lx xs) FinL 2268 [(0, .ref b), (1, .ref (ka S 0 0)), (2, .ref (ka S 30 0)), (3, .ref (ka S 80 0)), (4, .ref (ka S 81 0)), (5, .int (nI z))] [] (wm cy S I2 L2 R2 ++ (w9 ++ wlo cy S G)) c' s') : JG RL cL_law 9 cy room_1 (ExL b Lx xs) FinL 1805 [(0, .ref b), (1, .ref (ka S 0 0)), (2, .ref (ka S 30 0)), (3, .ref (ka S 80 0)), (4, .ref (ka S 81 0)), (5, .int (nI z))] [] (wm cy S I2 L2 R2 ++ (wc cy S I L R LP ++ wlo cy S G)) cells slots := by
  have hl31 : lg < 2 ^ 31 := by omega
  rcases lt_or (mS m) p1 with ⟨s, hs, rfl⟩ | hx
  · skip
    by_cases hw : 0 < m.1 44 s
    · skip
      refine JG_aload_n 1 rfl dL_law_1805 ?_
      refine JG_aload_n 0 rfl dL_law_1806 ?_
      refine JG_iload 5 rfl dL_law_1807 ?_
      refine JG_iconst (v := 1) (by decide) dL_law_1809 ?_
      refine JG_iadd dL_law_1810 ?_
      refine JG_topeq (nI (z + 1)) (by exact nI_add z 1) ?_
      refine JG_sld (vp_in_nI (by omega) (by omega)) dL_law_1811 ?_
      refine JG_topeq (nI s) (by rw [nI_toNat (by omega)]; exact e1) ?_
      refine JG_aload_n 3 rfl dL_law_1812 ?_
      refine JG_callH (As := [.ref (ka S 0 0), .int (nI s), .ref (ka S 80 0)]) (rest := []) (wm cy S I2 L2 R2) [] dL_law_1813 (w_sinceReport_s  (c_X7_sinceReport_s hR hI (by omega) hlg hs hw)) (by rw [List.append_nil]) lm_L_227 kw_L_sinceReport kiniL ks_L_sinceReport kdL_sinceReport ⟨Nat.le_of_ble_eq_true rfl, Nat.le_of_ble_eq_true rfl⟩ (by show cells + 0 ≤ 603072; omega) (by show slots + 0 ≤ 7186538; omega) (Nat.le_of_ble_eq_true rfl) (fun _ w8 r1 => ?_)
      obtain ⟨rfl, w9, hP, rfl⟩ := r1
      refine JG_eq (w' := wm cy S I2 L2 R2 ++ (w9 ++ wlo cy S (ku G 80 0 0 (m.1 30 26 - m.1 45 s).toInt64))) (st' := [.int 0]) (by rw [List.append_nil]) rfl rfl ?_
      refine JG_istore (lv' := [(0, .ref b), (1, .ref (ka S 0 0)), (2, .ref (ka S 30 0)), (3, .ref (ka S 80 0)), (4, .ref (ka S 81 0)), (5, .int (nI z)), (6, .int 0)]) (by decide) rfl dL_law_1816 ?_
      refine JG_aload_n 2 rfl dL_law_1818 ?_
      refine JG_aload_n 0 rfl dL_law_1819 ?_
      refine JG_iload 5 rfl dL_law_1820 ?_
      refine JG_iconst (v := 1) (by decide) dL_law_1822 ?_
      refine JG_iadd dL_law_1823 ?_
      refine JG_topeq (nI (z + 1)) (by exact nI_add z 1) ?_
      refine JG_sld (vp_in_nI (by omega) (by omega)) dL_law_1824 ?_
      refine JG_topeq (nI s) (by rw [nI_toNat (by omega)]; exact e1) ?_
      refine JG_callX8 (As := [.int (nI s)]) (rest := []) [] (w9 ++ wlo cy S (ku G 80 0 0 (m.1 30 26 - m.1 45 s).toInt64)) dL_law_1825 (c_X8_sinceReport_s hM hR hI (by omega) hs hw) rfl rfl lm_L_229 kc_yX8_sinceReport ki_yX8_sinceReport kv_yX8_sinceReport kd_yX8_sinceReport ⟨Nat.le_of_ble_eq_true rfl, Nat.le_of_ble_eq_true rfl⟩ (by show (cells + 0) + 0 ≤ 603072; omega) (by show (slots + 0) + 0 ≤ 7186538; omega) (Nat.le_of_ble_eq_true rfl) (fun _ w8 r2 => ?_)
      obtain ⟨rfl, I3, L3, rfl, hM3⟩ := r2
      refine JG_eq (w' := wm cy S I3 L3 R2 ++ (w9 ++ wlo cy S (ku G 80 0 0 (m.1 30 26 - m.1 45 s).toInt64))) (st' := [.int (m.1 30 26 - m.1 45 s)]) rfl rfl rfl ?_
      refine JG_istore (lv' := [(0, .ref b), (1, .ref (ka S 0 0)), (2, .ref (ka S 30 0)), (3, .ref (ka S 80 0)), (4, .ref (ka S 81 0)), (5, .int (nI z)), (6, .int 0), (7, .int (m.1 30 26 - m.1 45 s))]) (by decide) rfl dL_law_1828 ?_
      refine JG_aload_n 2 rfl dL_law_1830 ?_
      refine JG_callX8 (As := []) (rest := []) [] (w9 ++ wlo cy S (ku G 80 0 0 (m.1 30 26 - m.1 45 s).toInt64)) dL_law_1831 (c_X8_thrown hM3) rfl rfl lm_L_133 kc_yX8_thrown ki_yX8_thrown kv_yX8_thrown kd_yX8_thrown ⟨Nat.le_of_ble_eq_true rfl, Nat.le_of_ble_eq_true rfl⟩ (by show ((cells + 0) + 0) + 0 ≤ 603072; omega) (by show ((slots + 0) + 0) + 0 ≤ 7186538; omega) (Nat.le_of_ble_eq_true rfl) (fun _ w8 r4 => ?_)
      obtain ⟨rfl, I5, L5, rfl, hM5⟩ := r4
      refine JG_eq (w' := wm cy S I5 L5 R2 ++ (w9 ++ wlo cy S (ku G 80 0 0 (m.1 30 26 - m.1 45 s).toInt64))) (st' := [.int 0]) rfl rfl rfl ?_
      refine JG_iload 6 rfl dL_law_1834 ?_
      refine JG_icmp_eq 1841 (by decide) dL_law_1836 (fun c6 => ?_) (fun c6 => ?_)
      rotate_left
      · exact absurd (by decide) c6
      refine JG_iload 6 rfl dL_law_1841 ?_
      refine JG_if_ne 1858 (by decide) dL_law_1843 (fun c7 => ?_) (fun c7 => ?_)
      · exact absurd (by decide) c7
      refine JG_aload_n 3 rfl dL_law_1846 ?_
      refine JG_iconst (v := 0) (by decide) dL_law_1847 ?_
      refine JG_eq (w' := (wm cy S I5 L5 R2 ++ w9) ++ wlo cy S (ku G 80 0 0 (m.1 30 26 - m.1 45 s).toInt64)) (List.append_assoc _ _ _).symm rfl rfl ?_
      refine JG_laldO dL_law_1848 ?_
      refine JG_eq (w' := wm cy S I5 L5 R2 ++ (w9 ++ wlo cy S (ku G 80 0 0 (m.1 30 26 - m.1 45 s).toInt64))) (st' := [.long (m.1 30 26 - m.1 45 s).toInt64]) (List.append_assoc _ _ _) rfl (by rw [ku_eq]) ?_
      refine JG_iload 7 rfl dL_law_1849 ?_
      refine JG_i2l dL_law_1851 ?_
      refine JG_lcmp (rfl) dL_law_1852 ?_
      refine JG_if_eq 1858 (by decide) dL_law_1853 (fun c8 => ?_) (fun c8 => ?_)
      rotate_left
      · exact absurd (by decide) c8
      refine JG_goto 2268 (by decide) dL_law_1858 ?_
      refine JG_sub (lv' := [(0, .ref b), (1, .ref (ka S 0 0)), (2, .ref (ka S 30 0)), (3, .ref (ka S 80 0)), (4, .ref (ka S 81 0)), (5, .int (nI z))]) [0, 1, 2, 3, 4, 5] rfl ?_
      exact kk m _ _ _ _ _ _ _ _ ⟨LP, rc, hP⟩ hI (by omega) hM5 (by omega) (by omega)
    · skip
      refine JG_aload_n 1 rfl dL_law_1805 ?_
      refine JG_aload_n 0 rfl dL_law_1806 ?_
      refine JG_iload 5 rfl dL_law_1807 ?_
      refine JG_iconst (v := 1) (by decide) dL_law_1809 ?_
      refine JG_iadd dL_law_1810 ?_
      refine JG_topeq (nI (z + 1)) (by exact nI_add z 1) ?_
      refine JG_sld (vp_in_nI (by omega) (by omega)) dL_law_1811 ?_
      refine JG_topeq (nI s) (by rw [nI_toNat (by omega)]; exact e1) ?_
      refine JG_aload_n 3 rfl dL_law_1812 ?_
      refine JG_callH (As := [.ref (ka S 0 0), .int (nI s), .ref (ka S 80 0)]) (rest := []) (wm cy S I2 L2 R2) [] dL_law_1813 (w_sinceReport_2 (c_X7_sinceReport_y hR hI (by omega) hlg hs hw)) (by rw [List.append_nil]) lm_L_227 kw_L_sinceReport kiniL ks_L_sinceReport kdL_sinceReport ⟨Nat.le_of_ble_eq_true rfl, Nat.le_of_ble_eq_true rfl⟩ (by show cells + 1 ≤ 603072; omega) (by show slots + 6 ≤ 7186538; omega) (Nat.le_of_ble_eq_true rfl) (fun _ w8 r1 => ?_)
      obtain ⟨rfl, w9, hP, rfl⟩ := r1
      refine JG_eq (w' := wm cy S I2 L2 R2 ++ (w9 ++ wlo cy S G)) (st' := [.int 2]) (by rw [List.append_nil]) rfl rfl ?_
      refine JG_istore (lv' := [(0, .ref b), (1, .ref (ka S 0 0)), (2, .ref (ka S 30 0)), (3, .ref (ka S 80 0)), (4, .ref (ka S 81 0)), (5, .int (nI z)), (6, .int 2)]) (by decide) rfl dL_law_1816 ?_
      refine JG_aload_n 2 rfl dL_law_1818 ?_
      refine JG_aload_n 0 rfl dL_law_1819 ?_
      refine JG_iload 5 rfl dL_law_1820 ?_
      refine JG_iconst (v := 1) (by decide) dL_law_1822 ?_
      refine JG_iadd dL_law_1823 ?_
      refine JG_topeq (nI (z + 1)) (by exact nI_add z 1) ?_
      refine JG_sld (vp_in_nI (by omega) (by omega)) dL_law_1824 ?_
      refine JG_topeq (nI s) (by rw [nI_toNat (by omega)]; exact e1) ?_
      refine JG_callX8 (As := [.int (nI s)]) (rest := []) [] (w9 ++ wlo cy S G) dL_law_1825 (c_X8_sinceReport_y hM hR hI (by omega) hs hw) rfl rfl lm_L_229 kc_yX8_sinceReport ki_yX8_sinceReport kv_yX8_sinceReport kd_yX8_sinceReport ⟨Nat.le_of_ble_eq_true rfl, Nat.le_of_ble_eq_true rfl⟩ (by show (cells + 1) + 0 ≤ 603072; omega) (by show (slots + 6) + 0 ≤ 7186538; omega) (Nat.le_of_ble_eq_true rfl) (fun _ w8 r2 => ?_)
      obtain ⟨rfl, I3, L3, rfl, hM3⟩ := r2
      refine JG_eq (w' := wm cy S I3 L3 R2 ++ (w9 ++ wlo cy S G)) (st' := [.int 0]) rfl rfl rfl ?_
      refine JG_istore (lv' := [(0, .ref b), (1, .ref (ka S 0 0)), (2, .ref (ka S 30 0)), (3, .ref (ka S 80 0)), (4, .ref (ka S 81 0)), (5, .int (nI z)), (6, .int 2), (7, .int 0)]) (by decide) rfl dL_law_1828 ?_
      refine JG_aload_n 2 rfl dL_law_1830 ?_
      refine JG_callX8 (As := []) (rest := []) [] (w9 ++ wlo cy S G) dL_law_1831 (c_X8_thrown hM3) rfl rfl lm_L_133 kc_yX8_thrown ki_yX8_thrown kv_yX8_thrown kd_yX8_thrown ⟨Nat.le_of_ble_eq_true rfl, Nat.le_of_ble_eq_true rfl⟩ (by show ((cells + 1) + 0) + 0 ≤ 603072; omega) (by show ((slots + 6) + 0) + 0 ≤ 7186538; omega) (Nat.le_of_ble_eq_true rfl) (fun _ w8 r4 => ?_)
      obtain ⟨rfl, I5, L5, rfl, hM5⟩ := r4
      refine JG_eq (w' := wm cy S I5 L5 R2 ++ (w9 ++ wlo cy S G)) (st' := [.int 2]) rfl rfl rfl ?_
      refine JG_iload 6 rfl dL_law_1834 ?_
      refine JG_icmp_eq 1841 (by decide) dL_law_1836 (fun c6 => ?_) (fun c6 => ?_)
      rotate_left
      · exact absurd (by decide) c6
      refine JG_iload 6 rfl dL_law_1841 ?_
      refine JG_if_ne 1858 (by decide) dL_law_1843 (fun c7 => ?_) (fun c7 => ?_)
      rotate_left
      · exact absurd c7 (by decide)
      refine JG_goto 2268 (by decide) dL_law_1858 ?_
      refine JG_sub (lv' := [(0, .ref b), (1, .ref (ka S 0 0)), (2, .ref (ka S 30 0)), (3, .ref (ka S 80 0)), (4, .ref (ka S 81 0)), (5, .int (nI z))]) [0, 1, 2, 3, 4, 5] rfl ?_
      exact kk m _ _ _ _ _ _ _ _ ⟨LP, rc, hP⟩ hI (by omega) hM5 (by omega) (by omega)
  · skip
    refine JG_aload_n 1 rfl dL_law_1805 ?_
    refine JG_aload_n 0 rfl dL_law_1806 ?_
    refine JG_iload 5 rfl dL_law_1807 ?_
    refine JG_iconst (v := 1) (by decide) dL_law_1809 ?_
    refine JG_iadd dL_law_1810 ?_
    refine JG_topeq (nI (z + 1)) (by exact nI_add z 1) ?_
    refine JG_sld (vp_in_nI (by omega) (by omega)) dL_law_1811 ?_
    refine JG_topeq p1 (by rw [nI_toNat (by omega)]; exact e1) ?_
    refine JG_aload_n 3 rfl dL_law_1812 ?_
    refine JG_callH (As := [.ref (ka S 0 0), .int p1, .ref (ka S 80 0)]) (rest := []) (wm cy S I2 L2 R2) [] dL_law_1813 (w_sinceReport_1 (c_X7_sinceReport_x hR hI (by omega) hlg hx)) (by rw [List.append_nil]) lm_L_227 kw_L_sinceReport kiniL ks_L_sinceReport kdL_sinceReport ⟨Nat.le_of_ble_eq_true rfl, Nat.le_of_ble_eq_true rfl⟩ (by show cells + 1 ≤ 603072; omega) (by show slots + 6 ≤ 7186538; omega) (Nat.le_of_ble_eq_true rfl) (fun _ w8 r1 => ?_)
    obtain ⟨rfl, w9, hP, rfl⟩ := r1
    refine JG_eq (w' := wm cy S I2 L2 R2 ++ (w9 ++ wlo cy S G)) (st' := [.int 1]) (by rw [List.append_nil]) rfl rfl ?_
    refine JG_istore (lv' := [(0, .ref b), (1, .ref (ka S 0 0)), (2, .ref (ka S 30 0)), (3, .ref (ka S 80 0)), (4, .ref (ka S 81 0)), (5, .int (nI z)), (6, .int 1)]) (by decide) rfl dL_law_1816 ?_
    refine JG_aload_n 2 rfl dL_law_1818 ?_
    refine JG_aload_n 0 rfl dL_law_1819 ?_
    refine JG_iload 5 rfl dL_law_1820 ?_
    refine JG_iconst (v := 1) (by decide) dL_law_1822 ?_
    refine JG_iadd dL_law_1823 ?_
    refine JG_topeq (nI (z + 1)) (by exact nI_add z 1) ?_
    refine JG_sld (vp_in_nI (by omega) (by omega)) dL_law_1824 ?_
    refine JG_topeq p1 (by rw [nI_toNat (by omega)]; exact e1) ?_
    refine JG_callX8 (As := [.int p1]) (rest := []) [] (w9 ++ wlo cy S G) dL_law_1825 (c_X8_sinceReport_x hM hR hI (by omega) hx) rfl rfl lm_L_229 kc_yX8_sinceReport ki_yX8_sinceReport kv_yX8_sinceReport kd_yX8_sinceReport ⟨Nat.le_of_ble_eq_true rfl, Nat.le_of_ble_eq_true rfl⟩ (by show (cells + 1) + 0 ≤ 603072; omega) (by show (slots + 6) + 0 ≤ 7186538; omega) (Nat.le_of_ble_eq_true rfl) (fun _ w8 r2 => ?_)
    obtain ⟨rfl, I3, L3, rfl, hM3⟩ := r2
    refine JG_eq (w' := wm cy S I3 L3 R2 ++ (w9 ++ wlo cy S G)) (st' := [.int 0]) rfl rfl rfl ?_
    refine JG_istore (lv' := [(0, .ref b), (1, .ref (ka S 0 0)), (2, .ref (ka S 30 0)), (3, .ref (ka S 80 0)), (4, .ref (ka S 81 0)), (5, .int (nI z)), (6, .int 1), (7, .int 0)]) (by decide) rfl dL_law_1828 ?_
    refine JG_aload_n 2 rfl dL_law_1830 ?_
    refine JG_callX8 (As := []) (rest := []) [] (w9 ++ wlo cy S G) dL_law_1831 (c_X8_thrown hM3) rfl rfl lm_L_133 kc_yX8_thrown ki_yX8_thrown kv_yX8_thrown kd_yX8_thrown ⟨Nat.le_of_ble_eq_true rfl, Nat.le_of_ble_eq_true rfl⟩ (by show ((cells + 1) + 0) + 0 ≤ 603072; omega) (by show ((slots + 6) + 0) + 0 ≤ 7186538; omega) (Nat.le_of_ble_eq_true rfl) (fun _ w8 r4 => ?_)
    obtain ⟨rfl, I5, L5, rfl, hM5⟩ := r4
    refine JG_eq (w' := wm cy S I5 L5 R2 ++ (w9 ++ wlo cy S G)) (st' := [.int 1]) rfl rfl rfl ?_
    refine JG_iload 6 rfl dL_law_1834 ?_
    refine JG_icmp_eq 1841 (by decide) dL_law_1836 (fun c6 => ?_) (fun c6 => ?_)
    rotate_left
    · exact absurd (by decide) c6
    refine JG_iload 6 rfl dL_law_1841 ?_
    refine JG_if_ne 1858 (by decide) dL_law_1843 (fun c7 => ?_) (fun c7 => ?_)
    rotate_left
    · exact absurd c7 (by decide)
    refine JG_goto 2268 (by decide) dL_law_1858 ?_
    refine JG_sub (lv' := [(0, .ref b), (1, .ref (ka S 0 0)), (2, .ref (ka S 30 0)), (3, .ref (ka S 80 0)), (4, .ref (ka S 81 0)), (5, .int (nI z))]) [0, 1, 2, 3, 4, 5] rfl ?_
    exact kk m _ _ _ _ _ _ _ _ ⟨LP, rc, hP⟩ hI (by omega) hM5 (by omega) (by omega)

set_option maxRecDepth 20000 in
set_option maxHeartbeats 1000000 in
theorem lc_logTime {cy : Nat → ClassId} {S : Nat → Nat → Nat} {I I2 : kI} {L L2 G : kL} {R R2 : kRf} {LP : List Nat} {m : Mu} {rc : Nat → Nat} {ln qu : List Nat} {lg B : Nat} {cd : Int32} {b Lx z cells slots : Nat} {xs : Nat → Int32} {p1 : Int32} (hR : Rel m I L R LP rc ln qu lg) (hI : Inv m B) (hB : B + 100000 < 2 ^ 30) (hlg : lg < 2 ^ 30) (hM : MR m cd I2 L2) (hz : z + 4 < Lx) (hLx : Lx ≤ 2560) (hcl : cells + 101 ≤ 603072) (hsl : slots + 1307 ≤ 7186538) (e1 : xs (z + 1) = p1) (kk : ∀ (m' : Mu) (B' : Nat) (w9 : va_W) (I2 : kI) (L2 : kL) (cd : Int32) (G : kL) (c' s' : Nat), (∃ LP rc, RelX cy S LP rc m' w9) → Inv m' B' → B' ≤ B + 90000 → MR m' cd I2 L2 → c' ≤ cells + 100 → s' ≤ slots + 1300 → JG RL cL_law 9 cy room_1 (ExL b Lx xs) FinL 2268 [(0, .ref b), (1, .ref (ka S 0 0)), (2, .ref (ka S 30 0)), (3, .ref (ka S 80 0)), (4, .ref (ka S 81 0)), (5, .int (nI z))] [] (wm cy S I2 L2 R2 ++ (w9 ++ wlo cy S G)) c' s') : JG RL cL_law 9 cy room_1 (ExL b Lx xs) FinL 1930 [(0, .ref b), (1, .ref (ka S 0 0)), (2, .ref (ka S 30 0)), (3, .ref (ka S 80 0)), (4, .ref (ka S 81 0)), (5, .int (nI z))] [] (wm cy S I2 L2 R2 ++ (wc cy S I L R LP ++ wlo cy S G)) cells slots := by
  have hl31 : lg < 2 ^ 31 := by omega
  rcases lt_or (min lg 60) p1 with ⟨j, hj, rfl⟩ | hx
  · skip
    refine JG_aload_n 1 rfl dL_law_1930 ?_
    refine JG_aload_n 0 rfl dL_law_1931 ?_
    refine JG_iload 5 rfl dL_law_1932 ?_
    refine JG_iconst (v := 1) (by decide) dL_law_1934 ?_
    refine JG_iadd dL_law_1935 ?_
    refine JG_topeq (nI (z + 1)) (by exact nI_add z 1) ?_
    refine JG_sld (vp_in_nI (by omega) (by omega)) dL_law_1936 ?_
    refine JG_topeq (nI j) (by rw [nI_toNat (by omega)]; exact e1) ?_
    refine JG_aload_n 3 rfl dL_law_1937 ?_
    refine JG_callH (As := [.ref (ka S 0 0), .int (nI j), .ref (ka S 80 0)]) (rest := []) (wm cy S I2 L2 R2) [] dL_law_1938 (w_logTime_s  (c_X7_logTime_s hR hI (by omega) hlg hj)) (by rw [List.append_nil]) lm_L_237 kw_L_logTime kiniL ks_L_logTime kdL_logTime ⟨Nat.le_of_ble_eq_true rfl, Nat.le_of_ble_eq_true rfl⟩ (by show cells + 0 ≤ 603072; omega) (by show slots + 0 ≤ 7186538; omega) (Nat.le_of_ble_eq_true rfl) (fun _ w8 r1 => ?_)
    obtain ⟨rfl, w9, hP, rfl⟩ := r1
    refine JG_eq (w' := wm cy S I2 L2 R2 ++ (w9 ++ wlo cy S (ku G 80 0 0 (m.1 68 ((lg - 1 - j) % 60)).toInt64))) (st' := [.int 0]) (by rw [List.append_nil]) rfl rfl ?_
    refine JG_istore (lv' := [(0, .ref b), (1, .ref (ka S 0 0)), (2, .ref (ka S 30 0)), (3, .ref (ka S 80 0)), (4, .ref (ka S 81 0)), (5, .int (nI z)), (6, .int 0)]) (by decide) rfl dL_law_1941 ?_
    refine JG_aload_n 2 rfl dL_law_1943 ?_
    refine JG_aload_n 0 rfl dL_law_1944 ?_
    refine JG_iload 5 rfl dL_law_1945 ?_
    refine JG_iconst (v := 1) (by decide) dL_law_1947 ?_
    refine JG_iadd dL_law_1948 ?_
    refine JG_topeq (nI (z + 1)) (by exact nI_add z 1) ?_
    refine JG_sld (vp_in_nI (by omega) (by omega)) dL_law_1949 ?_
    refine JG_topeq (nI j) (by rw [nI_toNat (by omega)]; exact e1) ?_
    refine JG_callX8 (As := [.int (nI j)]) (rest := []) [] (w9 ++ wlo cy S (ku G 80 0 0 (m.1 68 ((lg - 1 - j) % 60)).toInt64)) dL_law_1950 (c_X8_logTime_s hM hR hI (by omega) hlg hj) rfl rfl lm_L_239 kc_yX8_logTime ki_yX8_logTime kv_yX8_logTime kd_yX8_logTime ⟨Nat.le_of_ble_eq_true rfl, Nat.le_of_ble_eq_true rfl⟩ (by show (cells + 0) + 0 ≤ 603072; omega) (by show (slots + 0) + 0 ≤ 7186538; omega) (Nat.le_of_ble_eq_true rfl) (fun _ w8 r2 => ?_)
    obtain ⟨rfl, I3, L3, rfl, hM3⟩ := r2
    refine JG_eq (w' := wm cy S I3 L3 R2 ++ (w9 ++ wlo cy S (ku G 80 0 0 (m.1 68 ((lg - 1 - j) % 60)).toInt64))) (st' := [.int (m.1 68 ((lg - 1 - j) % 60))]) rfl rfl rfl ?_
    refine JG_istore (lv' := [(0, .ref b), (1, .ref (ka S 0 0)), (2, .ref (ka S 30 0)), (3, .ref (ka S 80 0)), (4, .ref (ka S 81 0)), (5, .int (nI z)), (6, .int 0), (7, .int (m.1 68 ((lg - 1 - j) % 60)))]) (by decide) rfl dL_law_1953 ?_
    refine JG_aload_n 2 rfl dL_law_1955 ?_
    refine JG_callX8 (As := []) (rest := []) [] (w9 ++ wlo cy S (ku G 80 0 0 (m.1 68 ((lg - 1 - j) % 60)).toInt64)) dL_law_1956 (c_X8_thrown hM3) rfl rfl lm_L_133 kc_yX8_thrown ki_yX8_thrown kv_yX8_thrown kd_yX8_thrown ⟨Nat.le_of_ble_eq_true rfl, Nat.le_of_ble_eq_true rfl⟩ (by show ((cells + 0) + 0) + 0 ≤ 603072; omega) (by show ((slots + 0) + 0) + 0 ≤ 7186538; omega) (Nat.le_of_ble_eq_true rfl) (fun _ w8 r4 => ?_)
    obtain ⟨rfl, I5, L5, rfl, hM5⟩ := r4
    refine JG_eq (w' := wm cy S I5 L5 R2 ++ (w9 ++ wlo cy S (ku G 80 0 0 (m.1 68 ((lg - 1 - j) % 60)).toInt64))) (st' := [.int 0]) rfl rfl rfl ?_
    refine JG_iload 6 rfl dL_law_1959 ?_
    refine JG_icmp_eq 1966 (by decide) dL_law_1961 (fun c6 => ?_) (fun c6 => ?_)
    rotate_left
    · exact absurd (by decide) c6
    refine JG_iload 6 rfl dL_law_1966 ?_
    refine JG_if_ne 1983 (by decide) dL_law_1968 (fun c7 => ?_) (fun c7 => ?_)
    · exact absurd (by decide) c7
    refine JG_aload_n 3 rfl dL_law_1971 ?_
    refine JG_iconst (v := 0) (by decide) dL_law_1972 ?_
    refine JG_eq (w' := (wm cy S I5 L5 R2 ++ w9) ++ wlo cy S (ku G 80 0 0 (m.1 68 ((lg - 1 - j) % 60)).toInt64)) (List.append_assoc _ _ _).symm rfl rfl ?_
    refine JG_laldO dL_law_1973 ?_
    refine JG_eq (w' := wm cy S I5 L5 R2 ++ (w9 ++ wlo cy S (ku G 80 0 0 (m.1 68 ((lg - 1 - j) % 60)).toInt64))) (st' := [.long (m.1 68 ((lg - 1 - j) % 60)).toInt64]) (List.append_assoc _ _ _) rfl (by rw [ku_eq]) ?_
    refine JG_iload 7 rfl dL_law_1974 ?_
    refine JG_i2l dL_law_1976 ?_
    refine JG_lcmp (rfl) dL_law_1977 ?_
    refine JG_if_eq 1983 (by decide) dL_law_1978 (fun c8 => ?_) (fun c8 => ?_)
    rotate_left
    · exact absurd (by decide) c8
    refine JG_goto 2268 (by decide) dL_law_1983 ?_
    refine JG_sub (lv' := [(0, .ref b), (1, .ref (ka S 0 0)), (2, .ref (ka S 30 0)), (3, .ref (ka S 80 0)), (4, .ref (ka S 81 0)), (5, .int (nI z))]) [0, 1, 2, 3, 4, 5] rfl ?_
    exact kk m _ _ _ _ _ _ _ _ ⟨LP, rc, hP⟩ hI (by omega) hM5 (by omega) (by omega)
  · skip
    refine JG_aload_n 1 rfl dL_law_1930 ?_
    refine JG_aload_n 0 rfl dL_law_1931 ?_
    refine JG_iload 5 rfl dL_law_1932 ?_
    refine JG_iconst (v := 1) (by decide) dL_law_1934 ?_
    refine JG_iadd dL_law_1935 ?_
    refine JG_topeq (nI (z + 1)) (by exact nI_add z 1) ?_
    refine JG_sld (vp_in_nI (by omega) (by omega)) dL_law_1936 ?_
    refine JG_topeq p1 (by rw [nI_toNat (by omega)]; exact e1) ?_
    refine JG_aload_n 3 rfl dL_law_1937 ?_
    refine JG_callH (As := [.ref (ka S 0 0), .int p1, .ref (ka S 80 0)]) (rest := []) (wm cy S I2 L2 R2) [] dL_law_1938 (w_logTime_1 (c_X7_logTime_x hR hI (by omega) hlg hx)) (by rw [List.append_nil]) lm_L_237 kw_L_logTime kiniL ks_L_logTime kdL_logTime ⟨Nat.le_of_ble_eq_true rfl, Nat.le_of_ble_eq_true rfl⟩ (by show cells + 1 ≤ 603072; omega) (by show slots + 6 ≤ 7186538; omega) (Nat.le_of_ble_eq_true rfl) (fun _ w8 r1 => ?_)
    obtain ⟨rfl, w9, hP, rfl⟩ := r1
    refine JG_eq (w' := wm cy S I2 L2 R2 ++ (w9 ++ wlo cy S G)) (st' := [.int 1]) (by rw [List.append_nil]) rfl rfl ?_
    refine JG_istore (lv' := [(0, .ref b), (1, .ref (ka S 0 0)), (2, .ref (ka S 30 0)), (3, .ref (ka S 80 0)), (4, .ref (ka S 81 0)), (5, .int (nI z)), (6, .int 1)]) (by decide) rfl dL_law_1941 ?_
    refine JG_aload_n 2 rfl dL_law_1943 ?_
    refine JG_aload_n 0 rfl dL_law_1944 ?_
    refine JG_iload 5 rfl dL_law_1945 ?_
    refine JG_iconst (v := 1) (by decide) dL_law_1947 ?_
    refine JG_iadd dL_law_1948 ?_
    refine JG_topeq (nI (z + 1)) (by exact nI_add z 1) ?_
    refine JG_sld (vp_in_nI (by omega) (by omega)) dL_law_1949 ?_
    refine JG_topeq p1 (by rw [nI_toNat (by omega)]; exact e1) ?_
    refine JG_callX8 (As := [.int p1]) (rest := []) [] (w9 ++ wlo cy S G) dL_law_1950 (c_X8_logTime_x hM hR hI (by omega) hlg hx) rfl rfl lm_L_239 kc_yX8_logTime ki_yX8_logTime kv_yX8_logTime kd_yX8_logTime ⟨Nat.le_of_ble_eq_true rfl, Nat.le_of_ble_eq_true rfl⟩ (by show (cells + 1) + 0 ≤ 603072; omega) (by show (slots + 6) + 0 ≤ 7186538; omega) (Nat.le_of_ble_eq_true rfl) (fun _ w8 r2 => ?_)
    obtain ⟨rfl, I3, L3, rfl, hM3⟩ := r2
    refine JG_eq (w' := wm cy S I3 L3 R2 ++ (w9 ++ wlo cy S G)) (st' := [.int 0]) rfl rfl rfl ?_
    refine JG_istore (lv' := [(0, .ref b), (1, .ref (ka S 0 0)), (2, .ref (ka S 30 0)), (3, .ref (ka S 80 0)), (4, .ref (ka S 81 0)), (5, .int (nI z)), (6, .int 1), (7, .int 0)]) (by decide) rfl dL_law_1953 ?_
    refine JG_aload_n 2 rfl dL_law_1955 ?_
    refine JG_callX8 (As := []) (rest := []) [] (w9 ++ wlo cy S G) dL_law_1956 (c_X8_thrown hM3) rfl rfl lm_L_133 kc_yX8_thrown ki_yX8_thrown kv_yX8_thrown kd_yX8_thrown ⟨Nat.le_of_ble_eq_true rfl, Nat.le_of_ble_eq_true rfl⟩ (by show ((cells + 1) + 0) + 0 ≤ 603072; omega) (by show ((slots + 6) + 0) + 0 ≤ 7186538; omega) (Nat.le_of_ble_eq_true rfl) (fun _ w8 r4 => ?_)
    obtain ⟨rfl, I5, L5, rfl, hM5⟩ := r4
    refine JG_eq (w' := wm cy S I5 L5 R2 ++ (w9 ++ wlo cy S G)) (st' := [.int 1]) rfl rfl rfl ?_
    refine JG_iload 6 rfl dL_law_1959 ?_
    refine JG_icmp_eq 1966 (by decide) dL_law_1961 (fun c6 => ?_) (fun c6 => ?_)
    rotate_left
    · exact absurd (by decide) c6
    refine JG_iload 6 rfl dL_law_1966 ?_
    refine JG_if_ne 1983 (by decide) dL_law_1968 (fun c7 => ?_) (fun c7 => ?_)
    rotate_left
    · exact absurd c7 (by decide)
    refine JG_goto 2268 (by decide) dL_law_1983 ?_
    refine JG_sub (lv' := [(0, .ref b), (1, .ref (ka S 0 0)), (2, .ref (ka S 30 0)), (3, .ref (ka S 80 0)), (4, .ref (ka S 81 0)), (5, .int (nI z))]) [0, 1, 2, 3, 4, 5] rfl ?_
    exact kk m _ _ _ _ _ _ _ _ ⟨LP, rc, hP⟩ hI (by omega) hM5 (by omega) (by omega)

set_option maxRecDepth 20000 in
set_option maxHeartbeats 1000000 in
theorem lc_logKind {cy : Nat → ClassId} {S : Nat → Nat → Nat} {I I2 : kI} {L L2 G : kL} {R R2 : kRf} {LP : List Nat} {m : Mu} {rc : Nat → Nat} {ln qu : List Nat} {lg B : Nat} {cd : Int32} {b Lx z cells slots : Nat} {xs : Nat → Int32} {p1 : Int32} (hR : Rel m I L R LP rc ln qu lg) (hI : Inv m B) (hB : B + 100000 < 2 ^ 30) (hlg : lg < 2 ^ 30) (hM : MR m cd I2 L2) (hz : z + 4 < Lx) (hLx : Lx ≤ 2560) (hcl : cells + 101 ≤ 603072) (hsl : slots + 1307 ≤ 7186538) (e1 : xs (z + 1) = p1) (kk : ∀ (m' : Mu) (B' : Nat) (w9 : va_W) (I2 : kI) (L2 : kL) (cd : Int32) (G : kL) (c' s' : Nat), (∃ LP rc, RelX cy S LP rc m' w9) → Inv m' B' → B' ≤ B + 90000 → MR m' cd I2 L2 → c' ≤ cells + 100 → s' ≤ slots + 1300 → JG RL cL_law 9 cy room_1 (ExL b Lx xs) FinL 2268 [(0, .ref b), (1, .ref (ka S 0 0)), (2, .ref (ka S 30 0)), (3, .ref (ka S 80 0)), (4, .ref (ka S 81 0)), (5, .int (nI z))] [] (wm cy S I2 L2 R2 ++ (w9 ++ wlo cy S G)) c' s') : JG RL cL_law 9 cy room_1 (ExL b Lx xs) FinL 1986 [(0, .ref b), (1, .ref (ka S 0 0)), (2, .ref (ka S 30 0)), (3, .ref (ka S 80 0)), (4, .ref (ka S 81 0)), (5, .int (nI z))] [] (wm cy S I2 L2 R2 ++ (wc cy S I L R LP ++ wlo cy S G)) cells slots := by
  have hl31 : lg < 2 ^ 31 := by omega
  rcases lt_or (min lg 60) p1 with ⟨j, hj, rfl⟩ | hx
  · skip
    refine JG_aload_n 1 rfl dL_law_1986 ?_
    refine JG_aload_n 0 rfl dL_law_1987 ?_
    refine JG_iload 5 rfl dL_law_1988 ?_
    refine JG_iconst (v := 1) (by decide) dL_law_1990 ?_
    refine JG_iadd dL_law_1991 ?_
    refine JG_topeq (nI (z + 1)) (by exact nI_add z 1) ?_
    refine JG_sld (vp_in_nI (by omega) (by omega)) dL_law_1992 ?_
    refine JG_topeq (nI j) (by rw [nI_toNat (by omega)]; exact e1) ?_
    refine JG_aload_n 3 rfl dL_law_1993 ?_
    refine JG_callH (As := [.ref (ka S 0 0), .int (nI j), .ref (ka S 80 0)]) (rest := []) (wm cy S I2 L2 R2) [] dL_law_1994 (w_logKind_s  (c_X7_logKind_s hR hI (by omega) hlg hj)) (by rw [List.append_nil]) lm_L_240 kw_L_logKind kiniL ks_L_logKind kdL_logKind ⟨Nat.le_of_ble_eq_true rfl, Nat.le_of_ble_eq_true rfl⟩ (by show cells + 0 ≤ 603072; omega) (by show slots + 0 ≤ 7186538; omega) (Nat.le_of_ble_eq_true rfl) (fun _ w8 r1 => ?_)
    obtain ⟨rfl, w9, hP, rfl⟩ := r1
    refine JG_eq (w' := wm cy S I2 L2 R2 ++ (w9 ++ wlo cy S (ku G 80 0 0 (m.1 69 ((lg - 1 - j) % 60)).toInt64))) (st' := [.int 0]) (by rw [List.append_nil]) rfl rfl ?_
    refine JG_istore (lv' := [(0, .ref b), (1, .ref (ka S 0 0)), (2, .ref (ka S 30 0)), (3, .ref (ka S 80 0)), (4, .ref (ka S 81 0)), (5, .int (nI z)), (6, .int 0)]) (by decide) rfl dL_law_1997 ?_
    refine JG_aload_n 2 rfl dL_law_1999 ?_
    refine JG_aload_n 0 rfl dL_law_2000 ?_
    refine JG_iload 5 rfl dL_law_2001 ?_
    refine JG_iconst (v := 1) (by decide) dL_law_2003 ?_
    refine JG_iadd dL_law_2004 ?_
    refine JG_topeq (nI (z + 1)) (by exact nI_add z 1) ?_
    refine JG_sld (vp_in_nI (by omega) (by omega)) dL_law_2005 ?_
    refine JG_topeq (nI j) (by rw [nI_toNat (by omega)]; exact e1) ?_
    refine JG_callX8 (As := [.int (nI j)]) (rest := []) [] (w9 ++ wlo cy S (ku G 80 0 0 (m.1 69 ((lg - 1 - j) % 60)).toInt64)) dL_law_2006 (c_X8_logKind_s hM hR hI (by omega) hlg hj) rfl rfl lm_L_242 kc_yX8_logKind ki_yX8_logKind kv_yX8_logKind kd_yX8_logKind ⟨Nat.le_of_ble_eq_true rfl, Nat.le_of_ble_eq_true rfl⟩ (by show (cells + 0) + 0 ≤ 603072; omega) (by show (slots + 0) + 0 ≤ 7186538; omega) (Nat.le_of_ble_eq_true rfl) (fun _ w8 r2 => ?_)
    obtain ⟨rfl, I3, L3, rfl, hM3⟩ := r2
    refine JG_eq (w' := wm cy S I3 L3 R2 ++ (w9 ++ wlo cy S (ku G 80 0 0 (m.1 69 ((lg - 1 - j) % 60)).toInt64))) (st' := [.int (m.1 69 ((lg - 1 - j) % 60))]) rfl rfl rfl ?_
    refine JG_istore (lv' := [(0, .ref b), (1, .ref (ka S 0 0)), (2, .ref (ka S 30 0)), (3, .ref (ka S 80 0)), (4, .ref (ka S 81 0)), (5, .int (nI z)), (6, .int 0), (7, .int (m.1 69 ((lg - 1 - j) % 60)))]) (by decide) rfl dL_law_2009 ?_
    refine JG_aload_n 2 rfl dL_law_2011 ?_
    refine JG_callX8 (As := []) (rest := []) [] (w9 ++ wlo cy S (ku G 80 0 0 (m.1 69 ((lg - 1 - j) % 60)).toInt64)) dL_law_2012 (c_X8_thrown hM3) rfl rfl lm_L_133 kc_yX8_thrown ki_yX8_thrown kv_yX8_thrown kd_yX8_thrown ⟨Nat.le_of_ble_eq_true rfl, Nat.le_of_ble_eq_true rfl⟩ (by show ((cells + 0) + 0) + 0 ≤ 603072; omega) (by show ((slots + 0) + 0) + 0 ≤ 7186538; omega) (Nat.le_of_ble_eq_true rfl) (fun _ w8 r4 => ?_)
    obtain ⟨rfl, I5, L5, rfl, hM5⟩ := r4
    refine JG_eq (w' := wm cy S I5 L5 R2 ++ (w9 ++ wlo cy S (ku G 80 0 0 (m.1 69 ((lg - 1 - j) % 60)).toInt64))) (st' := [.int 0]) rfl rfl rfl ?_
    refine JG_iload 6 rfl dL_law_2015 ?_
    refine JG_icmp_eq 2022 (by decide) dL_law_2017 (fun c6 => ?_) (fun c6 => ?_)
    rotate_left
    · exact absurd (by decide) c6
    refine JG_iload 6 rfl dL_law_2022 ?_
    refine JG_if_ne 2039 (by decide) dL_law_2024 (fun c7 => ?_) (fun c7 => ?_)
    · exact absurd (by decide) c7
    refine JG_aload_n 3 rfl dL_law_2027 ?_
    refine JG_iconst (v := 0) (by decide) dL_law_2028 ?_
    refine JG_eq (w' := (wm cy S I5 L5 R2 ++ w9) ++ wlo cy S (ku G 80 0 0 (m.1 69 ((lg - 1 - j) % 60)).toInt64)) (List.append_assoc _ _ _).symm rfl rfl ?_
    refine JG_laldO dL_law_2029 ?_
    refine JG_eq (w' := wm cy S I5 L5 R2 ++ (w9 ++ wlo cy S (ku G 80 0 0 (m.1 69 ((lg - 1 - j) % 60)).toInt64))) (st' := [.long (m.1 69 ((lg - 1 - j) % 60)).toInt64]) (List.append_assoc _ _ _) rfl (by rw [ku_eq]) ?_
    refine JG_iload 7 rfl dL_law_2030 ?_
    refine JG_i2l dL_law_2032 ?_
    refine JG_lcmp (rfl) dL_law_2033 ?_
    refine JG_if_eq 2039 (by decide) dL_law_2034 (fun c8 => ?_) (fun c8 => ?_)
    rotate_left
    · exact absurd (by decide) c8
    refine JG_goto 2268 (by decide) dL_law_2039 ?_
    refine JG_sub (lv' := [(0, .ref b), (1, .ref (ka S 0 0)), (2, .ref (ka S 30 0)), (3, .ref (ka S 80 0)), (4, .ref (ka S 81 0)), (5, .int (nI z))]) [0, 1, 2, 3, 4, 5] rfl ?_
    exact kk m _ _ _ _ _ _ _ _ ⟨LP, rc, hP⟩ hI (by omega) hM5 (by omega) (by omega)
  · skip
    refine JG_aload_n 1 rfl dL_law_1986 ?_
    refine JG_aload_n 0 rfl dL_law_1987 ?_
    refine JG_iload 5 rfl dL_law_1988 ?_
    refine JG_iconst (v := 1) (by decide) dL_law_1990 ?_
    refine JG_iadd dL_law_1991 ?_
    refine JG_topeq (nI (z + 1)) (by exact nI_add z 1) ?_
    refine JG_sld (vp_in_nI (by omega) (by omega)) dL_law_1992 ?_
    refine JG_topeq p1 (by rw [nI_toNat (by omega)]; exact e1) ?_
    refine JG_aload_n 3 rfl dL_law_1993 ?_
    refine JG_callH (As := [.ref (ka S 0 0), .int p1, .ref (ka S 80 0)]) (rest := []) (wm cy S I2 L2 R2) [] dL_law_1994 (w_logKind_1 (c_X7_logKind_x hR hI (by omega) hlg hx)) (by rw [List.append_nil]) lm_L_240 kw_L_logKind kiniL ks_L_logKind kdL_logKind ⟨Nat.le_of_ble_eq_true rfl, Nat.le_of_ble_eq_true rfl⟩ (by show cells + 1 ≤ 603072; omega) (by show slots + 6 ≤ 7186538; omega) (Nat.le_of_ble_eq_true rfl) (fun _ w8 r1 => ?_)
    obtain ⟨rfl, w9, hP, rfl⟩ := r1
    refine JG_eq (w' := wm cy S I2 L2 R2 ++ (w9 ++ wlo cy S G)) (st' := [.int 1]) (by rw [List.append_nil]) rfl rfl ?_
    refine JG_istore (lv' := [(0, .ref b), (1, .ref (ka S 0 0)), (2, .ref (ka S 30 0)), (3, .ref (ka S 80 0)), (4, .ref (ka S 81 0)), (5, .int (nI z)), (6, .int 1)]) (by decide) rfl dL_law_1997 ?_
    refine JG_aload_n 2 rfl dL_law_1999 ?_
    refine JG_aload_n 0 rfl dL_law_2000 ?_
    refine JG_iload 5 rfl dL_law_2001 ?_
    refine JG_iconst (v := 1) (by decide) dL_law_2003 ?_
    refine JG_iadd dL_law_2004 ?_
    refine JG_topeq (nI (z + 1)) (by exact nI_add z 1) ?_
    refine JG_sld (vp_in_nI (by omega) (by omega)) dL_law_2005 ?_
    refine JG_topeq p1 (by rw [nI_toNat (by omega)]; exact e1) ?_
    refine JG_callX8 (As := [.int p1]) (rest := []) [] (w9 ++ wlo cy S G) dL_law_2006 (c_X8_logKind_x hM hR hI (by omega) hlg hx) rfl rfl lm_L_242 kc_yX8_logKind ki_yX8_logKind kv_yX8_logKind kd_yX8_logKind ⟨Nat.le_of_ble_eq_true rfl, Nat.le_of_ble_eq_true rfl⟩ (by show (cells + 1) + 0 ≤ 603072; omega) (by show (slots + 6) + 0 ≤ 7186538; omega) (Nat.le_of_ble_eq_true rfl) (fun _ w8 r2 => ?_)
    obtain ⟨rfl, I3, L3, rfl, hM3⟩ := r2
    refine JG_eq (w' := wm cy S I3 L3 R2 ++ (w9 ++ wlo cy S G)) (st' := [.int 97]) rfl rfl rfl ?_
    refine JG_istore (lv' := [(0, .ref b), (1, .ref (ka S 0 0)), (2, .ref (ka S 30 0)), (3, .ref (ka S 80 0)), (4, .ref (ka S 81 0)), (5, .int (nI z)), (6, .int 1), (7, .int 97)]) (by decide) rfl dL_law_2009 ?_
    refine JG_aload_n 2 rfl dL_law_2011 ?_
    refine JG_callX8 (As := []) (rest := []) [] (w9 ++ wlo cy S G) dL_law_2012 (c_X8_thrown hM3) rfl rfl lm_L_133 kc_yX8_thrown ki_yX8_thrown kv_yX8_thrown kd_yX8_thrown ⟨Nat.le_of_ble_eq_true rfl, Nat.le_of_ble_eq_true rfl⟩ (by show ((cells + 1) + 0) + 0 ≤ 603072; omega) (by show ((slots + 6) + 0) + 0 ≤ 7186538; omega) (Nat.le_of_ble_eq_true rfl) (fun _ w8 r4 => ?_)
    obtain ⟨rfl, I5, L5, rfl, hM5⟩ := r4
    refine JG_eq (w' := wm cy S I5 L5 R2 ++ (w9 ++ wlo cy S G)) (st' := [.int 1]) rfl rfl rfl ?_
    refine JG_iload 6 rfl dL_law_2015 ?_
    refine JG_icmp_eq 2022 (by decide) dL_law_2017 (fun c6 => ?_) (fun c6 => ?_)
    rotate_left
    · exact absurd (by decide) c6
    refine JG_iload 6 rfl dL_law_2022 ?_
    refine JG_if_ne 2039 (by decide) dL_law_2024 (fun c7 => ?_) (fun c7 => ?_)
    rotate_left
    · exact absurd c7 (by decide)
    refine JG_goto 2268 (by decide) dL_law_2039 ?_
    refine JG_sub (lv' := [(0, .ref b), (1, .ref (ka S 0 0)), (2, .ref (ka S 30 0)), (3, .ref (ka S 80 0)), (4, .ref (ka S 81 0)), (5, .int (nI z))]) [0, 1, 2, 3, 4, 5] rfl ?_
    exact kk m _ _ _ _ _ _ _ _ ⟨LP, rc, hP⟩ hI (by omega) hM5 (by omega) (by omega)

set_option maxRecDepth 20000 in
set_option maxHeartbeats 1000000 in
theorem lc_logNumber {cy : Nat → ClassId} {S : Nat → Nat → Nat} {I I2 : kI} {L L2 G : kL} {R R2 : kRf} {LP : List Nat} {m : Mu} {rc : Nat → Nat} {ln qu : List Nat} {lg B : Nat} {cd : Int32} {b Lx z cells slots : Nat} {xs : Nat → Int32} {p1 : Int32} (hR : Rel m I L R LP rc ln qu lg) (hI : Inv m B) (hB : B + 100000 < 2 ^ 30) (hlg : lg < 2 ^ 30) (hM : MR m cd I2 L2) (hz : z + 4 < Lx) (hLx : Lx ≤ 2560) (hcl : cells + 101 ≤ 603072) (hsl : slots + 1307 ≤ 7186538) (e1 : xs (z + 1) = p1) (kk : ∀ (m' : Mu) (B' : Nat) (w9 : va_W) (I2 : kI) (L2 : kL) (cd : Int32) (G : kL) (c' s' : Nat), (∃ LP rc, RelX cy S LP rc m' w9) → Inv m' B' → B' ≤ B + 90000 → MR m' cd I2 L2 → c' ≤ cells + 100 → s' ≤ slots + 1300 → JG RL cL_law 9 cy room_1 (ExL b Lx xs) FinL 2268 [(0, .ref b), (1, .ref (ka S 0 0)), (2, .ref (ka S 30 0)), (3, .ref (ka S 80 0)), (4, .ref (ka S 81 0)), (5, .int (nI z))] [] (wm cy S I2 L2 R2 ++ (w9 ++ wlo cy S G)) c' s') : JG RL cL_law 9 cy room_1 (ExL b Lx xs) FinL 2042 [(0, .ref b), (1, .ref (ka S 0 0)), (2, .ref (ka S 30 0)), (3, .ref (ka S 80 0)), (4, .ref (ka S 81 0)), (5, .int (nI z))] [] (wm cy S I2 L2 R2 ++ (wc cy S I L R LP ++ wlo cy S G)) cells slots := by
  have hl31 : lg < 2 ^ 31 := by omega
  rcases lt_or (min lg 60) p1 with ⟨j, hj, rfl⟩ | hx
  · skip
    refine JG_aload_n 1 rfl dL_law_2042 ?_
    refine JG_aload_n 0 rfl dL_law_2043 ?_
    refine JG_iload 5 rfl dL_law_2044 ?_
    refine JG_iconst (v := 1) (by decide) dL_law_2046 ?_
    refine JG_iadd dL_law_2047 ?_
    refine JG_topeq (nI (z + 1)) (by exact nI_add z 1) ?_
    refine JG_sld (vp_in_nI (by omega) (by omega)) dL_law_2048 ?_
    refine JG_topeq (nI j) (by rw [nI_toNat (by omega)]; exact e1) ?_
    refine JG_aload_n 3 rfl dL_law_2049 ?_
    refine JG_callH (As := [.ref (ka S 0 0), .int (nI j), .ref (ka S 80 0)]) (rest := []) (wm cy S I2 L2 R2) [] dL_law_2050 (w_logNumber_s  (c_X7_logNumber_s hR hI (by omega) hlg hj)) (by rw [List.append_nil]) lm_L_243 kw_L_logNumber kiniL ks_L_logNumber kdL_logNumber ⟨Nat.le_of_ble_eq_true rfl, Nat.le_of_ble_eq_true rfl⟩ (by show cells + 0 ≤ 603072; omega) (by show slots + 0 ≤ 7186538; omega) (Nat.le_of_ble_eq_true rfl) (fun _ w8 r1 => ?_)
    obtain ⟨rfl, w9, hP, rfl⟩ := r1
    refine JG_eq (w' := wm cy S I2 L2 R2 ++ (w9 ++ wlo cy S (ku G 80 0 0 (m.1 70 ((lg - 1 - j) % 60)).toInt64))) (st' := [.int 0]) (by rw [List.append_nil]) rfl rfl ?_
    refine JG_istore (lv' := [(0, .ref b), (1, .ref (ka S 0 0)), (2, .ref (ka S 30 0)), (3, .ref (ka S 80 0)), (4, .ref (ka S 81 0)), (5, .int (nI z)), (6, .int 0)]) (by decide) rfl dL_law_2053 ?_
    refine JG_aload_n 2 rfl dL_law_2055 ?_
    refine JG_aload_n 0 rfl dL_law_2056 ?_
    refine JG_iload 5 rfl dL_law_2057 ?_
    refine JG_iconst (v := 1) (by decide) dL_law_2059 ?_
    refine JG_iadd dL_law_2060 ?_
    refine JG_topeq (nI (z + 1)) (by exact nI_add z 1) ?_
    refine JG_sld (vp_in_nI (by omega) (by omega)) dL_law_2061 ?_
    refine JG_topeq (nI j) (by rw [nI_toNat (by omega)]; exact e1) ?_
    refine JG_callX8 (As := [.int (nI j)]) (rest := []) [] (w9 ++ wlo cy S (ku G 80 0 0 (m.1 70 ((lg - 1 - j) % 60)).toInt64)) dL_law_2062 (c_X8_logNumber_s hM hR hI (by omega) hlg hj) rfl rfl lm_L_245 kc_yX8_logNumber ki_yX8_logNumber kv_yX8_logNumber kd_yX8_logNumber ⟨Nat.le_of_ble_eq_true rfl, Nat.le_of_ble_eq_true rfl⟩ (by show (cells + 0) + 0 ≤ 603072; omega) (by show (slots + 0) + 0 ≤ 7186538; omega) (Nat.le_of_ble_eq_true rfl) (fun _ w8 r2 => ?_)
    obtain ⟨rfl, I3, L3, rfl, hM3⟩ := r2
    refine JG_eq (w' := wm cy S I3 L3 R2 ++ (w9 ++ wlo cy S (ku G 80 0 0 (m.1 70 ((lg - 1 - j) % 60)).toInt64))) (st' := [.int (m.1 70 ((lg - 1 - j) % 60))]) rfl rfl rfl ?_
    refine JG_istore (lv' := [(0, .ref b), (1, .ref (ka S 0 0)), (2, .ref (ka S 30 0)), (3, .ref (ka S 80 0)), (4, .ref (ka S 81 0)), (5, .int (nI z)), (6, .int 0), (7, .int (m.1 70 ((lg - 1 - j) % 60)))]) (by decide) rfl dL_law_2065 ?_
    refine JG_aload_n 2 rfl dL_law_2067 ?_
    refine JG_callX8 (As := []) (rest := []) [] (w9 ++ wlo cy S (ku G 80 0 0 (m.1 70 ((lg - 1 - j) % 60)).toInt64)) dL_law_2068 (c_X8_thrown hM3) rfl rfl lm_L_133 kc_yX8_thrown ki_yX8_thrown kv_yX8_thrown kd_yX8_thrown ⟨Nat.le_of_ble_eq_true rfl, Nat.le_of_ble_eq_true rfl⟩ (by show ((cells + 0) + 0) + 0 ≤ 603072; omega) (by show ((slots + 0) + 0) + 0 ≤ 7186538; omega) (Nat.le_of_ble_eq_true rfl) (fun _ w8 r4 => ?_)
    obtain ⟨rfl, I5, L5, rfl, hM5⟩ := r4
    refine JG_eq (w' := wm cy S I5 L5 R2 ++ (w9 ++ wlo cy S (ku G 80 0 0 (m.1 70 ((lg - 1 - j) % 60)).toInt64))) (st' := [.int 0]) rfl rfl rfl ?_
    refine JG_iload 6 rfl dL_law_2071 ?_
    refine JG_icmp_eq 2078 (by decide) dL_law_2073 (fun c6 => ?_) (fun c6 => ?_)
    rotate_left
    · exact absurd (by decide) c6
    refine JG_iload 6 rfl dL_law_2078 ?_
    refine JG_if_ne 2095 (by decide) dL_law_2080 (fun c7 => ?_) (fun c7 => ?_)
    · exact absurd (by decide) c7
    refine JG_aload_n 3 rfl dL_law_2083 ?_
    refine JG_iconst (v := 0) (by decide) dL_law_2084 ?_
    refine JG_eq (w' := (wm cy S I5 L5 R2 ++ w9) ++ wlo cy S (ku G 80 0 0 (m.1 70 ((lg - 1 - j) % 60)).toInt64)) (List.append_assoc _ _ _).symm rfl rfl ?_
    refine JG_laldO dL_law_2085 ?_
    refine JG_eq (w' := wm cy S I5 L5 R2 ++ (w9 ++ wlo cy S (ku G 80 0 0 (m.1 70 ((lg - 1 - j) % 60)).toInt64))) (st' := [.long (m.1 70 ((lg - 1 - j) % 60)).toInt64]) (List.append_assoc _ _ _) rfl (by rw [ku_eq]) ?_
    refine JG_iload 7 rfl dL_law_2086 ?_
    refine JG_i2l dL_law_2088 ?_
    refine JG_lcmp (rfl) dL_law_2089 ?_
    refine JG_if_eq 2095 (by decide) dL_law_2090 (fun c8 => ?_) (fun c8 => ?_)
    rotate_left
    · exact absurd (by decide) c8
    refine JG_goto 2268 (by decide) dL_law_2095 ?_
    refine JG_sub (lv' := [(0, .ref b), (1, .ref (ka S 0 0)), (2, .ref (ka S 30 0)), (3, .ref (ka S 80 0)), (4, .ref (ka S 81 0)), (5, .int (nI z))]) [0, 1, 2, 3, 4, 5] rfl ?_
    exact kk m _ _ _ _ _ _ _ _ ⟨LP, rc, hP⟩ hI (by omega) hM5 (by omega) (by omega)
  · skip
    refine JG_aload_n 1 rfl dL_law_2042 ?_
    refine JG_aload_n 0 rfl dL_law_2043 ?_
    refine JG_iload 5 rfl dL_law_2044 ?_
    refine JG_iconst (v := 1) (by decide) dL_law_2046 ?_
    refine JG_iadd dL_law_2047 ?_
    refine JG_topeq (nI (z + 1)) (by exact nI_add z 1) ?_
    refine JG_sld (vp_in_nI (by omega) (by omega)) dL_law_2048 ?_
    refine JG_topeq p1 (by rw [nI_toNat (by omega)]; exact e1) ?_
    refine JG_aload_n 3 rfl dL_law_2049 ?_
    refine JG_callH (As := [.ref (ka S 0 0), .int p1, .ref (ka S 80 0)]) (rest := []) (wm cy S I2 L2 R2) [] dL_law_2050 (w_logNumber_1 (c_X7_logNumber_x hR hI (by omega) hlg hx)) (by rw [List.append_nil]) lm_L_243 kw_L_logNumber kiniL ks_L_logNumber kdL_logNumber ⟨Nat.le_of_ble_eq_true rfl, Nat.le_of_ble_eq_true rfl⟩ (by show cells + 1 ≤ 603072; omega) (by show slots + 6 ≤ 7186538; omega) (Nat.le_of_ble_eq_true rfl) (fun _ w8 r1 => ?_)
    obtain ⟨rfl, w9, hP, rfl⟩ := r1
    refine JG_eq (w' := wm cy S I2 L2 R2 ++ (w9 ++ wlo cy S G)) (st' := [.int 1]) (by rw [List.append_nil]) rfl rfl ?_
    refine JG_istore (lv' := [(0, .ref b), (1, .ref (ka S 0 0)), (2, .ref (ka S 30 0)), (3, .ref (ka S 80 0)), (4, .ref (ka S 81 0)), (5, .int (nI z)), (6, .int 1)]) (by decide) rfl dL_law_2053 ?_
    refine JG_aload_n 2 rfl dL_law_2055 ?_
    refine JG_aload_n 0 rfl dL_law_2056 ?_
    refine JG_iload 5 rfl dL_law_2057 ?_
    refine JG_iconst (v := 1) (by decide) dL_law_2059 ?_
    refine JG_iadd dL_law_2060 ?_
    refine JG_topeq (nI (z + 1)) (by exact nI_add z 1) ?_
    refine JG_sld (vp_in_nI (by omega) (by omega)) dL_law_2061 ?_
    refine JG_topeq p1 (by rw [nI_toNat (by omega)]; exact e1) ?_
    refine JG_callX8 (As := [.int p1]) (rest := []) [] (w9 ++ wlo cy S G) dL_law_2062 (c_X8_logNumber_x hM hR hI (by omega) hlg hx) rfl rfl lm_L_245 kc_yX8_logNumber ki_yX8_logNumber kv_yX8_logNumber kd_yX8_logNumber ⟨Nat.le_of_ble_eq_true rfl, Nat.le_of_ble_eq_true rfl⟩ (by show (cells + 1) + 0 ≤ 603072; omega) (by show (slots + 6) + 0 ≤ 7186538; omega) (Nat.le_of_ble_eq_true rfl) (fun _ w8 r2 => ?_)
    obtain ⟨rfl, I3, L3, rfl, hM3⟩ := r2
    refine JG_eq (w' := wm cy S I3 L3 R2 ++ (w9 ++ wlo cy S G)) (st' := [.int 0]) rfl rfl rfl ?_
    refine JG_istore (lv' := [(0, .ref b), (1, .ref (ka S 0 0)), (2, .ref (ka S 30 0)), (3, .ref (ka S 80 0)), (4, .ref (ka S 81 0)), (5, .int (nI z)), (6, .int 1), (7, .int 0)]) (by decide) rfl dL_law_2065 ?_
    refine JG_aload_n 2 rfl dL_law_2067 ?_
    refine JG_callX8 (As := []) (rest := []) [] (w9 ++ wlo cy S G) dL_law_2068 (c_X8_thrown hM3) rfl rfl lm_L_133 kc_yX8_thrown ki_yX8_thrown kv_yX8_thrown kd_yX8_thrown ⟨Nat.le_of_ble_eq_true rfl, Nat.le_of_ble_eq_true rfl⟩ (by show ((cells + 1) + 0) + 0 ≤ 603072; omega) (by show ((slots + 6) + 0) + 0 ≤ 7186538; omega) (Nat.le_of_ble_eq_true rfl) (fun _ w8 r4 => ?_)
    obtain ⟨rfl, I5, L5, rfl, hM5⟩ := r4
    refine JG_eq (w' := wm cy S I5 L5 R2 ++ (w9 ++ wlo cy S G)) (st' := [.int 1]) rfl rfl rfl ?_
    refine JG_iload 6 rfl dL_law_2071 ?_
    refine JG_icmp_eq 2078 (by decide) dL_law_2073 (fun c6 => ?_) (fun c6 => ?_)
    rotate_left
    · exact absurd (by decide) c6
    refine JG_iload 6 rfl dL_law_2078 ?_
    refine JG_if_ne 2095 (by decide) dL_law_2080 (fun c7 => ?_) (fun c7 => ?_)
    rotate_left
    · exact absurd c7 (by decide)
    refine JG_goto 2268 (by decide) dL_law_2095 ?_
    refine JG_sub (lv' := [(0, .ref b), (1, .ref (ka S 0 0)), (2, .ref (ka S 30 0)), (3, .ref (ka S 80 0)), (4, .ref (ka S 81 0)), (5, .int (nI z))]) [0, 1, 2, 3, 4, 5] rfl ?_
    exact kk m _ _ _ _ _ _ _ _ ⟨LP, rc, hP⟩ hI (by omega) hM5 (by omega) (by omega)

set_option maxRecDepth 20000 in
set_option maxHeartbeats 1000000 in
theorem lc_meanWait {cy : Nat → ClassId} {S : Nat → Nat → Nat} {I I2 : kI} {L L2 G : kL} {R R2 : kRf} {LP : List Nat} {m : Mu} {rc : Nat → Nat} {ln qu : List Nat} {lg B : Nat} {cd : Int32} {b Lx z cells slots : Nat} {xs : Nat → Int32}  (hR : Rel m I L R LP rc ln qu lg) (hI : Inv m B) (hB : B + 100000 < 2 ^ 30) (hlg : lg < 2 ^ 30) (hM : MR m cd I2 L2) (hz : z + 4 < Lx) (hLx : Lx ≤ 2560) (hcl : cells + 101 ≤ 603072) (hsl : slots + 1307 ≤ 7186538)  (kk : ∀ (m' : Mu) (B' : Nat) (w9 : va_W) (I2 : kI) (L2 : kL) (cd : Int32) (G : kL) (c' s' : Nat), (∃ LP rc, RelX cy S LP rc m' w9) → Inv m' B' → B' ≤ B + 90000 → MR m' cd I2 L2 → c' ≤ cells + 100 → s' ≤ slots + 1300 → JG RL cL_law 9 cy room_1 (ExL b Lx xs) FinL 2268 [(0, .ref b), (1, .ref (ka S 0 0)), (2, .ref (ka S 30 0)), (3, .ref (ka S 80 0)), (4, .ref (ka S 81 0)), (5, .int (nI z))] [] (wm cy S I2 L2 R2 ++ (w9 ++ wlo cy S G)) c' s') : JG RL cL_law 9 cy room_1 (ExL b Lx xs) FinL 2112 [(0, .ref b), (1, .ref (ka S 0 0)), (2, .ref (ka S 30 0)), (3, .ref (ka S 80 0)), (4, .ref (ka S 81 0)), (5, .int (nI z))] [] (wm cy S I2 L2 R2 ++ (wc cy S I L R LP ++ wlo cy S G)) cells slots := by
  have hl31 : lg < 2 ^ 31 := by omega
  by_cases h0 : m.1 30 22 = 0
  · skip
    refine JG_aload_n 1 rfl dL_law_2112 ?_
    refine JG_aload 4 rfl dL_law_2113 ?_
    refine JG_callH (As := [.ref (ka S 0 0), .ref (ka S 81 0)]) (rest := []) (wm cy S I2 L2 R2) [] dL_law_2115 (w_meanWait_1 (c_X7_meanWait_x hR hI (by omega) hlg h0)) (by rw [List.append_nil]) lm_L_251 kw_L_meanWait kiniL ks_L_meanWait kdL_meanWait ⟨Nat.le_of_ble_eq_true rfl, Nat.le_of_ble_eq_true rfl⟩ (by show cells + 1 ≤ 603072; omega) (by show slots + 6 ≤ 7186538; omega) (Nat.le_of_ble_eq_true rfl) (fun _ w8 r1 => ?_)
    obtain ⟨rfl, w9, hP, rfl⟩ := r1
    refine JG_eq (w' := wm cy S I2 L2 R2 ++ (w9 ++ wlo cy S G)) (st' := [.int 1]) (by rw [List.append_nil]) rfl rfl ?_
    refine JG_istore (lv' := [(0, .ref b), (1, .ref (ka S 0 0)), (2, .ref (ka S 30 0)), (3, .ref (ka S 80 0)), (4, .ref (ka S 81 0)), (5, .int (nI z)), (6, .int 1)]) (by decide) rfl dL_law_2118 ?_
    refine JG_aload_n 2 rfl dL_law_2120 ?_
    refine JG_callX8 (As := []) (rest := []) [] (w9 ++ wlo cy S G) dL_law_2121 (c_X8_meanWait_x hM hR hI (by omega) h0) rfl rfl lm_L_254 kc_yX8_meanWait ki_yX8_meanWait kv_yX8_meanWait kd_yX8_meanWait ⟨Nat.le_of_ble_eq_true rfl, Nat.le_of_ble_eq_true rfl⟩ (by show (cells + 1) + 0 ≤ 603072; omega) (by show (slots + 6) + 0 ≤ 7186538; omega) (Nat.le_of_ble_eq_true rfl) (fun _ w8 r2 => ?_)
    obtain ⟨rfl, I3, L3, rfl, hM3⟩ := r2
    refine JG_eq (w' := wm cy S I3 L3 R2 ++ (w9 ++ wlo cy S G)) (st' := [.double FP.dconst0]) rfl rfl rfl ?_
    refine JG_dstore (lv' := [(0, .ref b), (1, .ref (ka S 0 0)), (2, .ref (ka S 30 0)), (3, .ref (ka S 80 0)), (4, .ref (ka S 81 0)), (5, .int (nI z)), (6, .int 1), (7, .double FP.dconst0)]) (by decide) rfl dL_law_2124 ?_
    refine JG_aload_n 2 rfl dL_law_2126 ?_
    refine JG_callX8 (As := []) (rest := []) [] (w9 ++ wlo cy S G) dL_law_2127 (c_X8_thrown hM3) rfl rfl lm_L_133 kc_yX8_thrown ki_yX8_thrown kv_yX8_thrown kd_yX8_thrown ⟨Nat.le_of_ble_eq_true rfl, Nat.le_of_ble_eq_true rfl⟩ (by show ((cells + 1) + 0) + 0 ≤ 603072; omega) (by show ((slots + 6) + 0) + 0 ≤ 7186538; omega) (Nat.le_of_ble_eq_true rfl) (fun _ w8 r4 => ?_)
    obtain ⟨rfl, I5, L5, rfl, hM5⟩ := r4
    refine JG_eq (w' := wm cy S I5 L5 R2 ++ (w9 ++ wlo cy S G)) (st' := [.int 1]) rfl rfl rfl ?_
    refine JG_iload 6 rfl dL_law_2130 ?_
    refine JG_icmp_eq 2137 (by decide) dL_law_2132 (fun c6 => ?_) (fun c6 => ?_)
    rotate_left
    · exact absurd (by decide) c6
    refine JG_iload 6 rfl dL_law_2137 ?_
    refine JG_if_ne 2174 (by decide) dL_law_2139 (fun c7 => ?_) (fun c7 => ?_)
    rotate_left
    · exact absurd c7 (by decide)
    refine JG_goto 2268 (by decide) dL_law_2174 ?_
    refine JG_sub (lv' := [(0, .ref b), (1, .ref (ka S 0 0)), (2, .ref (ka S 30 0)), (3, .ref (ka S 80 0)), (4, .ref (ka S 81 0)), (5, .int (nI z))]) [0, 1, 2, 3, 4, 5] rfl ?_
    exact kk m _ _ _ _ _ _ _ _ ⟨LP, rc, hP⟩ hI (by omega) hM5 (by omega) (by omega)
  · skip
    refine JG_aload_n 1 rfl dL_law_2112 ?_
    refine JG_aload 4 rfl dL_law_2113 ?_
    refine JG_callH (As := [.ref (ka S 0 0), .ref (ka S 81 0)]) (rest := []) (wm cy S I2 L2 R2) [] dL_law_2115 (w_meanWait_s  (c_X7_meanWait_s hR hI (by omega) hlg h0)) (by rw [List.append_nil]) lm_L_251 kw_L_meanWait kiniL ks_L_meanWait kdL_meanWait ⟨Nat.le_of_ble_eq_true rfl, Nat.le_of_ble_eq_true rfl⟩ (by show cells + 0 ≤ 603072; omega) (by show slots + 0 ≤ 7186538; omega) (Nat.le_of_ble_eq_true rfl) (fun _ w8 r1 => ?_)
    obtain ⟨rfl, w9, hP, rfl⟩ := r1
    refine JG_eq (w' := wm cy S I2 L2 R2 ++ (w9 ++ wlo cy S (ku G 81 0 0 (FP.ddiv (FP.i2d (m.1 30 23)) (FP.i2d (m.1 30 22))).toInt64))) (st' := [.int 0]) (by rw [List.append_nil]) rfl rfl ?_
    refine JG_istore (lv' := [(0, .ref b), (1, .ref (ka S 0 0)), (2, .ref (ka S 30 0)), (3, .ref (ka S 80 0)), (4, .ref (ka S 81 0)), (5, .int (nI z)), (6, .int 0)]) (by decide) rfl dL_law_2118 ?_
    refine JG_aload_n 2 rfl dL_law_2120 ?_
    refine JG_callX8 (As := []) (rest := []) [] (w9 ++ wlo cy S (ku G 81 0 0 (FP.ddiv (FP.i2d (m.1 30 23)) (FP.i2d (m.1 30 22))).toInt64)) dL_law_2121 (c_X8_meanWait_s hM hR hI (by omega) h0) rfl rfl lm_L_254 kc_yX8_meanWait ki_yX8_meanWait kv_yX8_meanWait kd_yX8_meanWait ⟨Nat.le_of_ble_eq_true rfl, Nat.le_of_ble_eq_true rfl⟩ (by show (cells + 0) + 0 ≤ 603072; omega) (by show (slots + 0) + 0 ≤ 7186538; omega) (Nat.le_of_ble_eq_true rfl) (fun _ w8 r2 => ?_)
    obtain ⟨rfl, I3, L3, rfl, hM3⟩ := r2
    refine JG_eq (w' := wm cy S I3 L3 R2 ++ (w9 ++ wlo cy S (ku G 81 0 0 (FP.ddiv (FP.i2d (m.1 30 23)) (FP.i2d (m.1 30 22))).toInt64))) (st' := [.double (FP.ddiv (FP.i2d (m.1 30 23)) (FP.i2d (m.1 30 22)))]) rfl rfl rfl ?_
    refine JG_dstore (lv' := [(0, .ref b), (1, .ref (ka S 0 0)), (2, .ref (ka S 30 0)), (3, .ref (ka S 80 0)), (4, .ref (ka S 81 0)), (5, .int (nI z)), (6, .int 0), (7, .double (FP.ddiv (FP.i2d (m.1 30 23)) (FP.i2d (m.1 30 22))))]) (by decide) rfl dL_law_2124 ?_
    refine JG_aload_n 2 rfl dL_law_2126 ?_
    refine JG_callX8 (As := []) (rest := []) [] (w9 ++ wlo cy S (ku G 81 0 0 (FP.ddiv (FP.i2d (m.1 30 23)) (FP.i2d (m.1 30 22))).toInt64)) dL_law_2127 (c_X8_thrown hM3) rfl rfl lm_L_133 kc_yX8_thrown ki_yX8_thrown kv_yX8_thrown kd_yX8_thrown ⟨Nat.le_of_ble_eq_true rfl, Nat.le_of_ble_eq_true rfl⟩ (by show ((cells + 0) + 0) + 0 ≤ 603072; omega) (by show ((slots + 0) + 0) + 0 ≤ 7186538; omega) (Nat.le_of_ble_eq_true rfl) (fun _ w8 r4 => ?_)
    obtain ⟨rfl, I5, L5, rfl, hM5⟩ := r4
    refine JG_eq (w' := wm cy S I5 L5 R2 ++ (w9 ++ wlo cy S (ku G 81 0 0 (FP.ddiv (FP.i2d (m.1 30 23)) (FP.i2d (m.1 30 22))).toInt64))) (st' := [.int 0]) rfl rfl rfl ?_
    refine JG_iload 6 rfl dL_law_2130 ?_
    refine JG_icmp_eq 2137 (by decide) dL_law_2132 (fun c6 => ?_) (fun c6 => ?_)
    rotate_left
    · exact absurd (by decide) c6
    refine JG_iload 6 rfl dL_law_2137 ?_
    refine JG_if_ne 2174 (by decide) dL_law_2139 (fun c7 => ?_) (fun c7 => ?_)
    · exact absurd (by decide) c7
    refine JG_aload 4 rfl dL_law_2142 ?_
    refine JG_iconst (v := 0) (by decide) dL_law_2144 ?_
    refine JG_eq (w' := (wm cy S I5 L5 R2 ++ w9) ++ wlo cy S (ku G 81 0 0 (FP.ddiv (FP.i2d (m.1 30 23)) (FP.i2d (m.1 30 22))).toInt64)) (List.append_assoc _ _ _).symm rfl rfl ?_
    refine JG_daldO dL_law_2145 ?_
    refine JG_eq (w' := wm cy S I5 L5 R2 ++ (w9 ++ wlo cy S (ku G 81 0 0 (FP.ddiv (FP.i2d (m.1 30 23)) (FP.i2d (m.1 30 22))).toInt64))) (st' := [.double (FP.ddiv (FP.i2d (m.1 30 23)) (FP.i2d (m.1 30 22)))]) (List.append_assoc _ _ _) rfl (by rw [ku_eq]; rfl) ?_
    refine JG_dload 7 rfl dL_law_2146 ?_
    refine JG_dcmp (v := 0) (by rw [ddiv_cmp h0]; exact cmp_eq _) dL_law_2148 ?_
    refine JG_if_eq 2174 (by decide) dL_law_2149 (fun c8 => ?_) (fun c8 => ?_)
    rotate_left
    · exact absurd (by decide) c8
    refine JG_goto 2268 (by decide) dL_law_2174 ?_
    refine JG_sub (lv' := [(0, .ref b), (1, .ref (ka S 0 0)), (2, .ref (ka S 30 0)), (3, .ref (ka S 80 0)), (4, .ref (ka S 81 0)), (5, .int (nI z))]) [0, 1, 2, 3, 4, 5] rfl ?_
    exact kk m _ _ _ _ _ _ _ _ ⟨LP, rc, hP⟩ hI (by omega) hM5 (by omega) (by omega)

set_option maxRecDepth 20000 in
set_option maxHeartbeats 1000000 in
theorem lc_channelShare {cy : Nat → ClassId} {S : Nat → Nat → Nat} {I I2 : kI} {L L2 G : kL} {R R2 : kRf} {LP : List Nat} {m : Mu} {rc : Nat → Nat} {ln qu : List Nat} {lg B : Nat} {cd : Int32} {b Lx z cells slots : Nat} {xs : Nat → Int32} {p1 : Int32} (hR : Rel m I L R LP rc ln qu lg) (hI : Inv m B) (hB : B + 100000 < 2 ^ 30) (hlg : lg < 2 ^ 30) (hM : MR m cd I2 L2) (hz : z + 4 < Lx) (hLx : Lx ≤ 2560) (hcl : cells + 101 ≤ 603072) (hsl : slots + 1307 ≤ 7186538) (e1 : xs (z + 1) = p1) (kk : ∀ (m' : Mu) (B' : Nat) (w9 : va_W) (I2 : kI) (L2 : kL) (cd : Int32) (G : kL) (c' s' : Nat), (∃ LP rc, RelX cy S LP rc m' w9) → Inv m' B' → B' ≤ B + 90000 → MR m' cd I2 L2 → c' ≤ cells + 100 → s' ≤ slots + 1300 → JG RL cL_law 9 cy room_1 (ExL b Lx xs) FinL 2268 [(0, .ref b), (1, .ref (ka S 0 0)), (2, .ref (ka S 30 0)), (3, .ref (ka S 80 0)), (4, .ref (ka S 81 0)), (5, .int (nI z))] [] (wm cy S I2 L2 R2 ++ (w9 ++ wlo cy S G)) c' s') : JG RL cL_law 9 cy room_1 (ExL b Lx xs) FinL 2177 [(0, .ref b), (1, .ref (ka S 0 0)), (2, .ref (ka S 30 0)), (3, .ref (ka S 80 0)), (4, .ref (ka S 81 0)), (5, .int (nI z))] [] (wm cy S I2 L2 R2 ++ (wc cy S I L R LP ++ wlo cy S G)) cells slots := by
  have hl31 : lg < 2 ^ 31 := by omega
  rcases lt_or (3) p1 with ⟨h, hh, rfl⟩ | hx
  · skip
    by_cases h0 : m.1 30 26 = 0
    · skip
      refine JG_aload_n 1 rfl dL_law_2177 ?_
      refine JG_aload_n 0 rfl dL_law_2178 ?_
      refine JG_iload 5 rfl dL_law_2179 ?_
      refine JG_iconst (v := 1) (by decide) dL_law_2181 ?_
      refine JG_iadd dL_law_2182 ?_
      refine JG_topeq (nI (z + 1)) (by exact nI_add z 1) ?_
      refine JG_sld (vp_in_nI (by omega) (by omega)) dL_law_2183 ?_
      refine JG_topeq (nI h) (by rw [nI_toNat (by omega)]; exact e1) ?_
      refine JG_aload 4 rfl dL_law_2184 ?_
      refine JG_callH (As := [.ref (ka S 0 0), .int (nI h), .ref (ka S 81 0)]) (rest := []) (wm cy S I2 L2 R2) [] dL_law_2186 (w_channelShare_2 (c_X7_channelShare_y hR hI (by omega) hlg hh h0)) (by rw [List.append_nil]) lm_L_255 kw_L_channelShare kiniL ks_L_channelShare kdL_channelShare ⟨Nat.le_of_ble_eq_true rfl, Nat.le_of_ble_eq_true rfl⟩ (by show cells + 1 ≤ 603072; omega) (by show slots + 6 ≤ 7186538; omega) (Nat.le_of_ble_eq_true rfl) (fun _ w8 r1 => ?_)
      obtain ⟨rfl, w9, hP, rfl⟩ := r1
      refine JG_eq (w' := wm cy S I2 L2 R2 ++ (w9 ++ wlo cy S G)) (st' := [.int 2]) (by rw [List.append_nil]) rfl rfl ?_
      refine JG_istore (lv' := [(0, .ref b), (1, .ref (ka S 0 0)), (2, .ref (ka S 30 0)), (3, .ref (ka S 80 0)), (4, .ref (ka S 81 0)), (5, .int (nI z)), (6, .int 2)]) (by decide) rfl dL_law_2189 ?_
      refine JG_aload_n 2 rfl dL_law_2191 ?_
      refine JG_aload_n 0 rfl dL_law_2192 ?_
      refine JG_iload 5 rfl dL_law_2193 ?_
      refine JG_iconst (v := 1) (by decide) dL_law_2195 ?_
      refine JG_iadd dL_law_2196 ?_
      refine JG_topeq (nI (z + 1)) (by exact nI_add z 1) ?_
      refine JG_sld (vp_in_nI (by omega) (by omega)) dL_law_2197 ?_
      refine JG_topeq (nI h) (by rw [nI_toNat (by omega)]; exact e1) ?_
      refine JG_callX8 (As := [.int (nI h)]) (rest := []) [] (w9 ++ wlo cy S G) dL_law_2198 (c_X8_channelShare_y hM hR hI (by omega) hh h0) rfl rfl lm_L_258 kc_yX8_channelShare ki_yX8_channelShare kv_yX8_channelShare kd_yX8_channelShare ⟨Nat.le_of_ble_eq_true rfl, Nat.le_of_ble_eq_true rfl⟩ (by show (cells + 1) + 0 ≤ 603072; omega) (by show (slots + 6) + 0 ≤ 7186538; omega) (Nat.le_of_ble_eq_true rfl) (fun _ w8 r2 => ?_)
      obtain ⟨rfl, I3, L3, rfl, hM3⟩ := r2
      refine JG_eq (w' := wm cy S I3 L3 R2 ++ (w9 ++ wlo cy S G)) (st' := [.float FP.fconst0]) rfl rfl rfl ?_
      refine JG_fstore (lv' := [(0, .ref b), (1, .ref (ka S 0 0)), (2, .ref (ka S 30 0)), (3, .ref (ka S 80 0)), (4, .ref (ka S 81 0)), (5, .int (nI z)), (6, .int 2), (7, .float FP.fconst0)]) (by decide) rfl dL_law_2201 ?_
      refine JG_aload_n 2 rfl dL_law_2203 ?_
      refine JG_callX8 (As := []) (rest := []) [] (w9 ++ wlo cy S G) dL_law_2204 (c_X8_thrown hM3) rfl rfl lm_L_133 kc_yX8_thrown ki_yX8_thrown kv_yX8_thrown kd_yX8_thrown ⟨Nat.le_of_ble_eq_true rfl, Nat.le_of_ble_eq_true rfl⟩ (by show ((cells + 1) + 0) + 0 ≤ 603072; omega) (by show ((slots + 6) + 0) + 0 ≤ 7186538; omega) (Nat.le_of_ble_eq_true rfl) (fun _ w8 r4 => ?_)
      obtain ⟨rfl, I5, L5, rfl, hM5⟩ := r4
      refine JG_eq (w' := wm cy S I5 L5 R2 ++ (w9 ++ wlo cy S G)) (st' := [.int 2]) rfl rfl rfl ?_
      refine JG_iload 6 rfl dL_law_2207 ?_
      refine JG_icmp_eq 2214 (by decide) dL_law_2209 (fun c6 => ?_) (fun c6 => ?_)
      rotate_left
      · exact absurd (by decide) c6
      refine JG_iload 6 rfl dL_law_2214 ?_
      refine JG_if_ne 2252 (by decide) dL_law_2216 (fun c7 => ?_) (fun c7 => ?_)
      rotate_left
      · exact absurd c7 (by decide)
      refine JG_goto 2268 (by decide) dL_law_2252 ?_
      refine JG_sub (lv' := [(0, .ref b), (1, .ref (ka S 0 0)), (2, .ref (ka S 30 0)), (3, .ref (ka S 80 0)), (4, .ref (ka S 81 0)), (5, .int (nI z))]) [0, 1, 2, 3, 4, 5] rfl ?_
      exact kk m _ _ _ _ _ _ _ _ ⟨LP, rc, hP⟩ hI (by omega) hM5 (by omega) (by omega)
    · obtain ⟨tt, aa, ss, ht1, ht2, -, -, -, -⟩ := hI.2.2.2.2.2.2.2.2
      have htt : tt ≠ 0 := by intro y; subst y; exact h0 ht1
      have hff : vf_n64 (FP.f2d (FP.fdiv (FP.i2f (m.1 64 h)) (FP.i2f (m.1 30 26)))) ∧ FP.dcmp (FP.f2d (FP.fdiv (FP.i2f (m.1 64 h)) (FP.i2f (m.1 30 26)))) (FP.f2d (FP.fdiv (FP.i2f (m.1 64 h)) (FP.i2f (m.1 30 26)))) = some .eq := by rw [ht1]; exact f2d_fdiv htt (by omega)
      refine JG_aload_n 1 rfl dL_law_2177 ?_
      refine JG_aload_n 0 rfl dL_law_2178 ?_
      refine JG_iload 5 rfl dL_law_2179 ?_
      refine JG_iconst (v := 1) (by decide) dL_law_2181 ?_
      refine JG_iadd dL_law_2182 ?_
      refine JG_topeq (nI (z + 1)) (by exact nI_add z 1) ?_
      refine JG_sld (vp_in_nI (by omega) (by omega)) dL_law_2183 ?_
      refine JG_topeq (nI h) (by rw [nI_toNat (by omega)]; exact e1) ?_
      refine JG_aload 4 rfl dL_law_2184 ?_
      refine JG_callH (As := [.ref (ka S 0 0), .int (nI h), .ref (ka S 81 0)]) (rest := []) (wm cy S I2 L2 R2) [] dL_law_2186 (w_channelShare_s hff.1 (c_X7_channelShare_s hR hI (by omega) hlg hh h0)) (by rw [List.append_nil]) lm_L_255 kw_L_channelShare kiniL ks_L_channelShare kdL_channelShare ⟨Nat.le_of_ble_eq_true rfl, Nat.le_of_ble_eq_true rfl⟩ (by show cells + 0 ≤ 603072; omega) (by show slots + 0 ≤ 7186538; omega) (Nat.le_of_ble_eq_true rfl) (fun _ w8 r1 => ?_)
      obtain ⟨rfl, w9, hP, rfl⟩ := r1
      refine JG_eq (w' := wm cy S I2 L2 R2 ++ (w9 ++ wlo cy S (ku G 81 0 0 (FP.f2d (FP.fdiv (FP.i2f (m.1 64 h)) (FP.i2f (m.1 30 26)))).toInt64))) (st' := [.int 0]) (by rw [List.append_nil]) rfl rfl ?_
      refine JG_istore (lv' := [(0, .ref b), (1, .ref (ka S 0 0)), (2, .ref (ka S 30 0)), (3, .ref (ka S 80 0)), (4, .ref (ka S 81 0)), (5, .int (nI z)), (6, .int 0)]) (by decide) rfl dL_law_2189 ?_
      refine JG_aload_n 2 rfl dL_law_2191 ?_
      refine JG_aload_n 0 rfl dL_law_2192 ?_
      refine JG_iload 5 rfl dL_law_2193 ?_
      refine JG_iconst (v := 1) (by decide) dL_law_2195 ?_
      refine JG_iadd dL_law_2196 ?_
      refine JG_topeq (nI (z + 1)) (by exact nI_add z 1) ?_
      refine JG_sld (vp_in_nI (by omega) (by omega)) dL_law_2197 ?_
      refine JG_topeq (nI h) (by rw [nI_toNat (by omega)]; exact e1) ?_
      refine JG_callX8 (As := [.int (nI h)]) (rest := []) [] (w9 ++ wlo cy S (ku G 81 0 0 (FP.f2d (FP.fdiv (FP.i2f (m.1 64 h)) (FP.i2f (m.1 30 26)))).toInt64)) dL_law_2198 (c_X8_channelShare_s hM hR hI (by omega) hh h0) rfl rfl lm_L_258 kc_yX8_channelShare ki_yX8_channelShare kv_yX8_channelShare kd_yX8_channelShare ⟨Nat.le_of_ble_eq_true rfl, Nat.le_of_ble_eq_true rfl⟩ (by show (cells + 0) + 0 ≤ 603072; omega) (by show (slots + 0) + 0 ≤ 7186538; omega) (Nat.le_of_ble_eq_true rfl) (fun _ w8 r2 => ?_)
      obtain ⟨rfl, I3, L3, rfl, hM3⟩ := r2
      refine JG_eq (w' := wm cy S I3 L3 R2 ++ (w9 ++ wlo cy S (ku G 81 0 0 (FP.f2d (FP.fdiv (FP.i2f (m.1 64 h)) (FP.i2f (m.1 30 26)))).toInt64))) (st' := [.float (FP.fdiv (FP.i2f (m.1 64 h)) (FP.i2f (m.1 30 26)))]) rfl rfl rfl ?_
      refine JG_fstore (lv' := [(0, .ref b), (1, .ref (ka S 0 0)), (2, .ref (ka S 30 0)), (3, .ref (ka S 80 0)), (4, .ref (ka S 81 0)), (5, .int (nI z)), (6, .int 0), (7, .float (FP.fdiv (FP.i2f (m.1 64 h)) (FP.i2f (m.1 30 26))))]) (by decide) rfl dL_law_2201 ?_
      refine JG_aload_n 2 rfl dL_law_2203 ?_
      refine JG_callX8 (As := []) (rest := []) [] (w9 ++ wlo cy S (ku G 81 0 0 (FP.f2d (FP.fdiv (FP.i2f (m.1 64 h)) (FP.i2f (m.1 30 26)))).toInt64)) dL_law_2204 (c_X8_thrown hM3) rfl rfl lm_L_133 kc_yX8_thrown ki_yX8_thrown kv_yX8_thrown kd_yX8_thrown ⟨Nat.le_of_ble_eq_true rfl, Nat.le_of_ble_eq_true rfl⟩ (by show ((cells + 0) + 0) + 0 ≤ 603072; omega) (by show ((slots + 0) + 0) + 0 ≤ 7186538; omega) (Nat.le_of_ble_eq_true rfl) (fun _ w8 r4 => ?_)
      obtain ⟨rfl, I5, L5, rfl, hM5⟩ := r4
      refine JG_eq (w' := wm cy S I5 L5 R2 ++ (w9 ++ wlo cy S (ku G 81 0 0 (FP.f2d (FP.fdiv (FP.i2f (m.1 64 h)) (FP.i2f (m.1 30 26)))).toInt64))) (st' := [.int 0]) rfl rfl rfl ?_
      refine JG_iload 6 rfl dL_law_2207 ?_
      refine JG_icmp_eq 2214 (by decide) dL_law_2209 (fun c6 => ?_) (fun c6 => ?_)
      rotate_left
      · exact absurd (by decide) c6
      refine JG_iload 6 rfl dL_law_2214 ?_
      refine JG_if_ne 2252 (by decide) dL_law_2216 (fun c7 => ?_) (fun c7 => ?_)
      · exact absurd (by decide) c7
      refine JG_aload 4 rfl dL_law_2219 ?_
      refine JG_iconst (v := 0) (by decide) dL_law_2221 ?_
      refine JG_eq (w' := (wm cy S I5 L5 R2 ++ w9) ++ wlo cy S (ku G 81 0 0 (FP.f2d (FP.fdiv (FP.i2f (m.1 64 h)) (FP.i2f (m.1 30 26)))).toInt64)) (List.append_assoc _ _ _).symm rfl rfl ?_
      refine JG_daldO dL_law_2222 ?_
      refine JG_eq (w' := wm cy S I5 L5 R2 ++ (w9 ++ wlo cy S (ku G 81 0 0 (FP.f2d (FP.fdiv (FP.i2f (m.1 64 h)) (FP.i2f (m.1 30 26)))).toInt64))) (st' := [.double (FP.f2d (FP.fdiv (FP.i2f (m.1 64 h)) (FP.i2f (m.1 30 26))))]) (List.append_assoc _ _ _) rfl (by rw [ku_eq]; rfl) ?_
      refine JG_fload 7 rfl dL_law_2223 ?_
      refine JG_f2d (hff.1) dL_law_2225 ?_
      refine JG_dcmp (v := 0) (by rw [hff.2]; exact cmp_eq _) dL_law_2226 ?_
      refine JG_if_eq 2252 (by decide) dL_law_2227 (fun c8 => ?_) (fun c8 => ?_)
      rotate_left
      · exact absurd (by decide) c8
      refine JG_goto 2268 (by decide) dL_law_2252 ?_
      refine JG_sub (lv' := [(0, .ref b), (1, .ref (ka S 0 0)), (2, .ref (ka S 30 0)), (3, .ref (ka S 80 0)), (4, .ref (ka S 81 0)), (5, .int (nI z))]) [0, 1, 2, 3, 4, 5] rfl ?_
      exact kk m _ _ _ _ _ _ _ _ ⟨LP, rc, hP⟩ hI (by omega) hM5 (by omega) (by omega)
  · skip
    refine JG_aload_n 1 rfl dL_law_2177 ?_
    refine JG_aload_n 0 rfl dL_law_2178 ?_
    refine JG_iload 5 rfl dL_law_2179 ?_
    refine JG_iconst (v := 1) (by decide) dL_law_2181 ?_
    refine JG_iadd dL_law_2182 ?_
    refine JG_topeq (nI (z + 1)) (by exact nI_add z 1) ?_
    refine JG_sld (vp_in_nI (by omega) (by omega)) dL_law_2183 ?_
    refine JG_topeq p1 (by rw [nI_toNat (by omega)]; exact e1) ?_
    refine JG_aload 4 rfl dL_law_2184 ?_
    refine JG_callH (As := [.ref (ka S 0 0), .int p1, .ref (ka S 81 0)]) (rest := []) (wm cy S I2 L2 R2) [] dL_law_2186 (w_channelShare_1 (c_X7_channelShare_x hR hI (by omega) hlg hx)) (by rw [List.append_nil]) lm_L_255 kw_L_channelShare kiniL ks_L_channelShare kdL_channelShare ⟨Nat.le_of_ble_eq_true rfl, Nat.le_of_ble_eq_true rfl⟩ (by show cells + 1 ≤ 603072; omega) (by show slots + 6 ≤ 7186538; omega) (Nat.le_of_ble_eq_true rfl) (fun _ w8 r1 => ?_)
    obtain ⟨rfl, w9, hP, rfl⟩ := r1
    refine JG_eq (w' := wm cy S I2 L2 R2 ++ (w9 ++ wlo cy S G)) (st' := [.int 1]) (by rw [List.append_nil]) rfl rfl ?_
    refine JG_istore (lv' := [(0, .ref b), (1, .ref (ka S 0 0)), (2, .ref (ka S 30 0)), (3, .ref (ka S 80 0)), (4, .ref (ka S 81 0)), (5, .int (nI z)), (6, .int 1)]) (by decide) rfl dL_law_2189 ?_
    refine JG_aload_n 2 rfl dL_law_2191 ?_
    refine JG_aload_n 0 rfl dL_law_2192 ?_
    refine JG_iload 5 rfl dL_law_2193 ?_
    refine JG_iconst (v := 1) (by decide) dL_law_2195 ?_
    refine JG_iadd dL_law_2196 ?_
    refine JG_topeq (nI (z + 1)) (by exact nI_add z 1) ?_
    refine JG_sld (vp_in_nI (by omega) (by omega)) dL_law_2197 ?_
    refine JG_topeq p1 (by rw [nI_toNat (by omega)]; exact e1) ?_
    refine JG_callX8 (As := [.int p1]) (rest := []) [] (w9 ++ wlo cy S G) dL_law_2198 (c_X8_channelShare_x hM hR hI (by omega) hx) rfl rfl lm_L_258 kc_yX8_channelShare ki_yX8_channelShare kv_yX8_channelShare kd_yX8_channelShare ⟨Nat.le_of_ble_eq_true rfl, Nat.le_of_ble_eq_true rfl⟩ (by show (cells + 1) + 0 ≤ 603072; omega) (by show (slots + 6) + 0 ≤ 7186538; omega) (Nat.le_of_ble_eq_true rfl) (fun _ w8 r2 => ?_)
    obtain ⟨rfl, I3, L3, rfl, hM3⟩ := r2
    refine JG_eq (w' := wm cy S I3 L3 R2 ++ (w9 ++ wlo cy S G)) (st' := [.float FP.fconst0]) rfl rfl rfl ?_
    refine JG_fstore (lv' := [(0, .ref b), (1, .ref (ka S 0 0)), (2, .ref (ka S 30 0)), (3, .ref (ka S 80 0)), (4, .ref (ka S 81 0)), (5, .int (nI z)), (6, .int 1), (7, .float FP.fconst0)]) (by decide) rfl dL_law_2201 ?_
    refine JG_aload_n 2 rfl dL_law_2203 ?_
    refine JG_callX8 (As := []) (rest := []) [] (w9 ++ wlo cy S G) dL_law_2204 (c_X8_thrown hM3) rfl rfl lm_L_133 kc_yX8_thrown ki_yX8_thrown kv_yX8_thrown kd_yX8_thrown ⟨Nat.le_of_ble_eq_true rfl, Nat.le_of_ble_eq_true rfl⟩ (by show ((cells + 1) + 0) + 0 ≤ 603072; omega) (by show ((slots + 6) + 0) + 0 ≤ 7186538; omega) (Nat.le_of_ble_eq_true rfl) (fun _ w8 r4 => ?_)
    obtain ⟨rfl, I5, L5, rfl, hM5⟩ := r4
    refine JG_eq (w' := wm cy S I5 L5 R2 ++ (w9 ++ wlo cy S G)) (st' := [.int 1]) rfl rfl rfl ?_
    refine JG_iload 6 rfl dL_law_2207 ?_
    refine JG_icmp_eq 2214 (by decide) dL_law_2209 (fun c6 => ?_) (fun c6 => ?_)
    rotate_left
    · exact absurd (by decide) c6
    refine JG_iload 6 rfl dL_law_2214 ?_
    refine JG_if_ne 2252 (by decide) dL_law_2216 (fun c7 => ?_) (fun c7 => ?_)
    rotate_left
    · exact absurd c7 (by decide)
    refine JG_goto 2268 (by decide) dL_law_2252 ?_
    refine JG_sub (lv' := [(0, .ref b), (1, .ref (ka S 0 0)), (2, .ref (ka S 30 0)), (3, .ref (ka S 80 0)), (4, .ref (ka S 81 0)), (5, .int (nI z))]) [0, 1, 2, 3, 4, 5] rfl ?_
    exact kk m _ _ _ _ _ _ _ _ ⟨LP, rc, hP⟩ hI (by omega) hM5 (by omega) (by omega)

set_option maxRecDepth 20000 in
set_option maxHeartbeats 1000000 in
theorem lc_stations {cy : Nat → ClassId} {S : Nat → Nat → Nat} {I I2 : kI} {L L2 G : kL} {R R2 : kRf} {LP : List Nat} {m : Mu} {rc : Nat → Nat} {ln qu : List Nat} {lg B : Nat} {cd : Int32} {b Lx z cells slots : Nat} {xs : Nat → Int32}  (hR : Rel m I L R LP rc ln qu lg) (hI : Inv m B) (hB : B + 100000 < 2 ^ 30) (hlg : lg < 2 ^ 30) (hM : MR m cd I2 L2) (hz : z + 4 < Lx) (hLx : Lx ≤ 2560) (hcl : cells + 101 ≤ 603072) (hsl : slots + 1307 ≤ 7186538)  (kk : ∀ (m' : Mu) (B' : Nat) (w9 : va_W) (I2 : kI) (L2 : kL) (cd : Int32) (G : kL) (c' s' : Nat), (∃ LP rc, RelX cy S LP rc m' w9) → Inv m' B' → B' ≤ B + 90000 → MR m' cd I2 L2 → c' ≤ cells + 100 → s' ≤ slots + 1300 → JG RL cL_law 9 cy room_1 (ExL b Lx xs) FinL 2268 [(0, .ref b), (1, .ref (ka S 0 0)), (2, .ref (ka S 30 0)), (3, .ref (ka S 80 0)), (4, .ref (ka S 81 0)), (5, .int (nI z))] [] (wm cy S I2 L2 R2 ++ (w9 ++ wlo cy S G)) c' s') : JG RL cL_law 9 cy room_1 (ExL b Lx xs) FinL 439 [(0, .ref b), (1, .ref (ka S 0 0)), (2, .ref (ka S 30 0)), (3, .ref (ka S 80 0)), (4, .ref (ka S 81 0)), (5, .int (nI z))] [] (wm cy S I2 L2 R2 ++ (wc cy S I L R LP ++ wlo cy S G)) cells slots := by
  have hl31 : lg < 2 ^ 31 := by omega
  refine JG_aload_n 1 rfl dL_law_439 ?_
  refine JG_callX7 (As := []) (rest := []) (wm cy S I2 L2 R2) (wlo cy S G) dL_law_440 (c_X7_stations_s hR hI (by omega) hlg) rfl rfl lm_L_144 kc_yX7_stations ki_yX7_stations kv_yX7_stations kd_yX7_stations ⟨Nat.le_of_ble_eq_true rfl, Nat.le_of_ble_eq_true rfl⟩ (by show cells + 0 ≤ 603072; omega) (by show slots + 0 ≤ 7186538; omega) (Nat.le_of_ble_eq_true rfl) (fun _ w9 r1 => ?_) (fun _ _ h => h.elim)
  obtain ⟨rfl, hP⟩ := r1
  refine JG_eq (w' := wm cy S I2 L2 R2 ++ (w9 ++ wlo cy S G)) (st' := [.int (m.1 30 0)]) rfl rfl rfl ?_
  refine JG_aload_n 2 rfl dL_law_443 ?_
  refine JG_callX8 (As := []) (rest := [.int (m.1 30 0)]) [] (w9 ++ wlo cy S G) dL_law_444 (c_X8_stations_s hM hR hI (by omega)) rfl rfl lm_L_147 kc_yX8_stations ki_yX8_stations kv_yX8_stations kd_yX8_stations ⟨Nat.le_of_ble_eq_true rfl, Nat.le_of_ble_eq_true rfl⟩ (by show (cells + 0) + 0 ≤ 603072; omega) (by show (slots + 0) + 0 ≤ 7186538; omega) (Nat.le_of_ble_eq_true rfl) (fun _ w8 r2 => ?_)
  obtain ⟨rfl, I3, L3, rfl, hM3⟩ := r2
  refine JG_eq (w' := wm cy S I3 L3 R2 ++ (w9 ++ wlo cy S G)) (st' := [.int (m.1 30 0), .int (m.1 30 0)]) rfl rfl rfl ?_
  refine JG_icmp_eq 2268 (by decide) dL_law_447 (fun c4 => ?_) (fun c4 => ?_)
  rotate_left
  · exfalso
    exact c4 rfl
  refine JG_sub (lv' := [(0, .ref b), (1, .ref (ka S 0 0)), (2, .ref (ka S 30 0)), (3, .ref (ka S 80 0)), (4, .ref (ka S 81 0)), (5, .int (nI z))]) [0, 1, 2, 3, 4, 5] rfl ?_
  exact kk m _ _ _ _ _ _ _ _ ⟨LP, rc, hP⟩ hI (by omega) hM3 (by omega) (by omega)

set_option maxRecDepth 20000 in
set_option maxHeartbeats 1000000 in
theorem lc_calls {cy : Nat → ClassId} {S : Nat → Nat → Nat} {I I2 : kI} {L L2 G : kL} {R R2 : kRf} {LP : List Nat} {m : Mu} {rc : Nat → Nat} {ln qu : List Nat} {lg B : Nat} {cd : Int32} {b Lx z cells slots : Nat} {xs : Nat → Int32}  (hR : Rel m I L R LP rc ln qu lg) (hI : Inv m B) (hB : B + 100000 < 2 ^ 30) (hlg : lg < 2 ^ 30) (hM : MR m cd I2 L2) (hz : z + 4 < Lx) (hLx : Lx ≤ 2560) (hcl : cells + 101 ≤ 603072) (hsl : slots + 1307 ≤ 7186538)  (kk : ∀ (m' : Mu) (B' : Nat) (w9 : va_W) (I2 : kI) (L2 : kL) (cd : Int32) (G : kL) (c' s' : Nat), (∃ LP rc, RelX cy S LP rc m' w9) → Inv m' B' → B' ≤ B + 90000 → MR m' cd I2 L2 → c' ≤ cells + 100 → s' ≤ slots + 1300 → JG RL cL_law 9 cy room_1 (ExL b Lx xs) FinL 2268 [(0, .ref b), (1, .ref (ka S 0 0)), (2, .ref (ka S 30 0)), (3, .ref (ka S 80 0)), (4, .ref (ka S 81 0)), (5, .int (nI z))] [] (wm cy S I2 L2 R2 ++ (w9 ++ wlo cy S G)) c' s') : JG RL cL_law 9 cy room_1 (ExL b Lx xs) FinL 1474 [(0, .ref b), (1, .ref (ka S 0 0)), (2, .ref (ka S 30 0)), (3, .ref (ka S 80 0)), (4, .ref (ka S 81 0)), (5, .int (nI z))] [] (wm cy S I2 L2 R2 ++ (wc cy S I L R LP ++ wlo cy S G)) cells slots := by
  have hl31 : lg < 2 ^ 31 := by omega
  refine JG_aload_n 1 rfl dL_law_1474 ?_
  refine JG_callX7 (As := []) (rest := []) (wm cy S I2 L2 R2) (wlo cy S G) dL_law_1475 (c_X7_calls_s hR hI (by omega) hlg) rfl rfl lm_L_200 kc_yX7_calls ki_yX7_calls kv_yX7_calls kd_yX7_calls ⟨Nat.le_of_ble_eq_true rfl, Nat.le_of_ble_eq_true rfl⟩ (by show cells + 0 ≤ 603072; omega) (by show slots + 0 ≤ 7186538; omega) (Nat.le_of_ble_eq_true rfl) (fun _ w9 r1 => ?_) (fun _ _ h => h.elim)
  obtain ⟨rfl, hP⟩ := r1
  refine JG_eq (w' := wm cy S I2 L2 R2 ++ (w9 ++ wlo cy S G)) (st' := [.int (m.1 30 10)]) rfl rfl rfl ?_
  refine JG_aload_n 2 rfl dL_law_1478 ?_
  refine JG_callX8 (As := []) (rest := [.int (m.1 30 10)]) [] (w9 ++ wlo cy S G) dL_law_1479 (c_X8_calls_s hM hR hI (by omega)) rfl rfl lm_L_203 kc_yX8_calls ki_yX8_calls kv_yX8_calls kd_yX8_calls ⟨Nat.le_of_ble_eq_true rfl, Nat.le_of_ble_eq_true rfl⟩ (by show (cells + 0) + 0 ≤ 603072; omega) (by show (slots + 0) + 0 ≤ 7186538; omega) (Nat.le_of_ble_eq_true rfl) (fun _ w8 r2 => ?_)
  obtain ⟨rfl, I3, L3, rfl, hM3⟩ := r2
  refine JG_eq (w' := wm cy S I3 L3 R2 ++ (w9 ++ wlo cy S G)) (st' := [.int (m.1 30 10), .int (m.1 30 10)]) rfl rfl rfl ?_
  refine JG_icmp_eq 2268 (by decide) dL_law_1482 (fun c4 => ?_) (fun c4 => ?_)
  rotate_left
  · exfalso
    exact c4 rfl
  refine JG_sub (lv' := [(0, .ref b), (1, .ref (ka S 0 0)), (2, .ref (ka S 30 0)), (3, .ref (ka S 80 0)), (4, .ref (ka S 81 0)), (5, .int (nI z))]) [0, 1, 2, 3, 4, 5] rfl ?_
  exact kk m _ _ _ _ _ _ _ _ ⟨LP, rc, hP⟩ hI (by omega) hM3 (by omega) (by omega)

set_option maxRecDepth 20000 in
set_option maxHeartbeats 1000000 in
theorem lc_time {cy : Nat → ClassId} {S : Nat → Nat → Nat} {I I2 : kI} {L L2 G : kL} {R R2 : kRf} {LP : List Nat} {m : Mu} {rc : Nat → Nat} {ln qu : List Nat} {lg B : Nat} {cd : Int32} {b Lx z cells slots : Nat} {xs : Nat → Int32}  (hR : Rel m I L R LP rc ln qu lg) (hI : Inv m B) (hB : B + 100000 < 2 ^ 30) (hlg : lg < 2 ^ 30) (hM : MR m cd I2 L2) (hz : z + 4 < Lx) (hLx : Lx ≤ 2560) (hcl : cells + 101 ≤ 603072) (hsl : slots + 1307 ≤ 7186538)  (kk : ∀ (m' : Mu) (B' : Nat) (w9 : va_W) (I2 : kI) (L2 : kL) (cd : Int32) (G : kL) (c' s' : Nat), (∃ LP rc, RelX cy S LP rc m' w9) → Inv m' B' → B' ≤ B + 90000 → MR m' cd I2 L2 → c' ≤ cells + 100 → s' ≤ slots + 1300 → JG RL cL_law 9 cy room_1 (ExL b Lx xs) FinL 2268 [(0, .ref b), (1, .ref (ka S 0 0)), (2, .ref (ka S 30 0)), (3, .ref (ka S 80 0)), (4, .ref (ka S 81 0)), (5, .int (nI z))] [] (wm cy S I2 L2 R2 ++ (w9 ++ wlo cy S G)) c' s') : JG RL cL_law 9 cy room_1 (ExL b Lx xs) FinL 1668 [(0, .ref b), (1, .ref (ka S 0 0)), (2, .ref (ka S 30 0)), (3, .ref (ka S 80 0)), (4, .ref (ka S 81 0)), (5, .int (nI z))] [] (wm cy S I2 L2 R2 ++ (wc cy S I L R LP ++ wlo cy S G)) cells slots := by
  have hl31 : lg < 2 ^ 31 := by omega
  refine JG_aload_n 1 rfl dL_law_1668 ?_
  refine JG_callX7 (As := []) (rest := []) (wm cy S I2 L2 R2) (wlo cy S G) dL_law_1669 (c_X7_time_s hR hI (by omega) hlg) rfl rfl lm_L_217 kc_yX7_time ki_yX7_time kv_yX7_time kd_yX7_time ⟨Nat.le_of_ble_eq_true rfl, Nat.le_of_ble_eq_true rfl⟩ (by show cells + 0 ≤ 603072; omega) (by show slots + 0 ≤ 7186538; omega) (Nat.le_of_ble_eq_true rfl) (fun _ w9 r1 => ?_) (fun _ _ h => h.elim)
  obtain ⟨rfl, hP⟩ := r1
  refine JG_eq (w' := wm cy S I2 L2 R2 ++ (w9 ++ wlo cy S G)) (st' := [.int (m.1 30 26)]) rfl rfl rfl ?_
  refine JG_aload_n 2 rfl dL_law_1672 ?_
  refine JG_callX8 (As := []) (rest := [.int (m.1 30 26)]) [] (w9 ++ wlo cy S G) dL_law_1673 (c_X8_time_s hM hR hI (by omega)) rfl rfl lm_L_220 kc_yX8_time ki_yX8_time kv_yX8_time kd_yX8_time ⟨Nat.le_of_ble_eq_true rfl, Nat.le_of_ble_eq_true rfl⟩ (by show (cells + 0) + 0 ≤ 603072; omega) (by show (slots + 0) + 0 ≤ 7186538; omega) (Nat.le_of_ble_eq_true rfl) (fun _ w8 r2 => ?_)
  obtain ⟨rfl, I3, L3, rfl, hM3⟩ := r2
  refine JG_eq (w' := wm cy S I3 L3 R2 ++ (w9 ++ wlo cy S G)) (st' := [.int (m.1 30 26), .int (m.1 30 26)]) rfl rfl rfl ?_
  refine JG_icmp_eq 2268 (by decide) dL_law_1676 (fun c4 => ?_) (fun c4 => ?_)
  rotate_left
  · exfalso
    exact c4 rfl
  refine JG_sub (lv' := [(0, .ref b), (1, .ref (ka S 0 0)), (2, .ref (ka S 30 0)), (3, .ref (ka S 80 0)), (4, .ref (ka S 81 0)), (5, .int (nI z))]) [0, 1, 2, 3, 4, 5] rfl ?_
  exact kk m _ _ _ _ _ _ _ _ ⟨LP, rc, hP⟩ hI (by omega) hM3 (by omega) (by omega)

set_option maxRecDepth 20000 in
set_option maxHeartbeats 1000000 in
theorem lc_logged {cy : Nat → ClassId} {S : Nat → Nat → Nat} {I I2 : kI} {L L2 G : kL} {R R2 : kRf} {LP : List Nat} {m : Mu} {rc : Nat → Nat} {ln qu : List Nat} {lg B : Nat} {cd : Int32} {b Lx z cells slots : Nat} {xs : Nat → Int32}  (hR : Rel m I L R LP rc ln qu lg) (hI : Inv m B) (hB : B + 100000 < 2 ^ 30) (hlg : lg < 2 ^ 30) (hM : MR m cd I2 L2) (hz : z + 4 < Lx) (hLx : Lx ≤ 2560) (hcl : cells + 101 ≤ 603072) (hsl : slots + 1307 ≤ 7186538)  (kk : ∀ (m' : Mu) (B' : Nat) (w9 : va_W) (I2 : kI) (L2 : kL) (cd : Int32) (G : kL) (c' s' : Nat), (∃ LP rc, RelX cy S LP rc m' w9) → Inv m' B' → B' ≤ B + 90000 → MR m' cd I2 L2 → c' ≤ cells + 100 → s' ≤ slots + 1300 → JG RL cL_law 9 cy room_1 (ExL b Lx xs) FinL 2268 [(0, .ref b), (1, .ref (ka S 0 0)), (2, .ref (ka S 30 0)), (3, .ref (ka S 80 0)), (4, .ref (ka S 81 0)), (5, .int (nI z))] [] (wm cy S I2 L2 R2 ++ (w9 ++ wlo cy S G)) c' s') : JG RL cL_law 9 cy room_1 (ExL b Lx xs) FinL 1917 [(0, .ref b), (1, .ref (ka S 0 0)), (2, .ref (ka S 30 0)), (3, .ref (ka S 80 0)), (4, .ref (ka S 81 0)), (5, .int (nI z))] [] (wm cy S I2 L2 R2 ++ (wc cy S I L R LP ++ wlo cy S G)) cells slots := by
  have hl31 : lg < 2 ^ 31 := by omega
  refine JG_aload_n 1 rfl dL_law_1917 ?_
  refine JG_callX7 (As := []) (rest := []) (wm cy S I2 L2 R2) (wlo cy S G) dL_law_1918 (c_X7_logged_s hR hI (by omega) hlg) rfl rfl lm_L_233 kc_yX7_logged ki_yX7_logged kv_yX7_logged kd_yX7_logged ⟨Nat.le_of_ble_eq_true rfl, Nat.le_of_ble_eq_true rfl⟩ (by show cells + 0 ≤ 603072; omega) (by show slots + 0 ≤ 7186538; omega) (Nat.le_of_ble_eq_true rfl) (fun _ w9 r1 => ?_) (fun _ _ h => h.elim)
  obtain ⟨rfl, hP⟩ := r1
  refine JG_eq (w' := wm cy S I2 L2 R2 ++ (w9 ++ wlo cy S G)) (st' := [.int (m.1 30 27)]) rfl rfl rfl ?_
  refine JG_aload_n 2 rfl dL_law_1921 ?_
  refine JG_callX8 (As := []) (rest := [.int (m.1 30 27)]) [] (w9 ++ wlo cy S G) dL_law_1922 (c_X8_logged_s hM hR hI (by omega)) rfl rfl lm_L_236 kc_yX8_logged ki_yX8_logged kv_yX8_logged kd_yX8_logged ⟨Nat.le_of_ble_eq_true rfl, Nat.le_of_ble_eq_true rfl⟩ (by show (cells + 0) + 0 ≤ 603072; omega) (by show (slots + 0) + 0 ≤ 7186538; omega) (Nat.le_of_ble_eq_true rfl) (fun _ w8 r2 => ?_)
  obtain ⟨rfl, I3, L3, rfl, hM3⟩ := r2
  refine JG_eq (w' := wm cy S I3 L3 R2 ++ (w9 ++ wlo cy S G)) (st' := [.int (m.1 30 27), .int (m.1 30 27)]) rfl rfl rfl ?_
  refine JG_icmp_eq 2268 (by decide) dL_law_1925 (fun c4 => ?_) (fun c4 => ?_)
  rotate_left
  · exfalso
    exact c4 rfl
  refine JG_sub (lv' := [(0, .ref b), (1, .ref (ka S 0 0)), (2, .ref (ka S 30 0)), (3, .ref (ka S 80 0)), (4, .ref (ka S 81 0)), (5, .int (nI z))]) [0, 1, 2, 3, 4, 5] rfl ?_
  exact kk m _ _ _ _ _ _ _ _ ⟨LP, rc, hP⟩ hI (by omega) hM3 (by omega) (by omega)

set_option maxRecDepth 20000 in
set_option maxHeartbeats 1000000 in
theorem lc_waiting {cy : Nat → ClassId} {S : Nat → Nat → Nat} {I I2 : kI} {L L2 G : kL} {R R2 : kRf} {LP : List Nat} {m : Mu} {rc : Nat → Nat} {ln qu : List Nat} {lg B : Nat} {cd : Int32} {b Lx z cells slots : Nat} {xs : Nat → Int32}  (hR : Rel m I L R LP rc ln qu lg) (hI : Inv m B) (hB : B + 100000 < 2 ^ 30) (hlg : lg < 2 ^ 30) (hM : MR m cd I2 L2) (hz : z + 4 < Lx) (hLx : Lx ≤ 2560) (hcl : cells + 101 ≤ 603072) (hsl : slots + 1307 ≤ 7186538)  (kk : ∀ (m' : Mu) (B' : Nat) (w9 : va_W) (I2 : kI) (L2 : kL) (cd : Int32) (G : kL) (c' s' : Nat), (∃ LP rc, RelX cy S LP rc m' w9) → Inv m' B' → B' ≤ B + 90000 → MR m' cd I2 L2 → c' ≤ cells + 100 → s' ≤ slots + 1300 → JG RL cL_law 9 cy room_1 (ExL b Lx xs) FinL 2268 [(0, .ref b), (1, .ref (ka S 0 0)), (2, .ref (ka S 30 0)), (3, .ref (ka S 80 0)), (4, .ref (ka S 81 0)), (5, .int (nI z))] [] (wm cy S I2 L2 R2 ++ (w9 ++ wlo cy S G)) c' s') : JG RL cL_law 9 cy room_1 (ExL b Lx xs) FinL 1487 [(0, .ref b), (1, .ref (ka S 0 0)), (2, .ref (ka S 30 0)), (3, .ref (ka S 80 0)), (4, .ref (ka S 81 0)), (5, .int (nI z))] [] (wm cy S I2 L2 R2 ++ (wc cy S I L R LP ++ wlo cy S G)) cells slots := by
  have hl31 : lg < 2 ^ 31 := by omega
  have hmn : mMany m 119 ≤ 24 := by have := hI.2.2.2.2.2.1; omega
  refine JG_aload_n 1 rfl dL_law_1487 ?_
  refine JG_callX7 (As := []) (rest := []) (wm cy S I2 L2 R2) (wlo cy S G) dL_law_1488 (c_X7_waiting_s hR hI (by omega) hlg) rfl rfl lm_L_204 kc_yX7_waiting ki_yX7_waiting kv_yX7_waiting kd_yX7_waiting ⟨Nat.le_of_ble_eq_true rfl, Nat.le_of_ble_eq_true rfl⟩ (by show cells + 0 ≤ 603072; omega) (by show slots + 0 ≤ 7186538; omega) (Nat.le_of_ble_eq_true rfl) (fun _ w9 r1 => ?_) (fun _ _ h => h.elim)
  obtain ⟨rfl, hP⟩ := r1
  refine JG_eq (w' := wm cy S I2 L2 R2 ++ (w9 ++ wlo cy S G)) (st' := [.int (nI (mMany m 119))]) rfl rfl rfl ?_
  refine JG_aload_n 2 rfl dL_law_1491 ?_
  refine JG_callX8 (As := []) (rest := [.int (nI (mMany m 119))]) [] (w9 ++ wlo cy S G) dL_law_1492 (c_X8_waiting_s hM hR hI (by omega)) rfl rfl lm_L_207 kc_yX8_waiting ki_yX8_waiting kv_yX8_waiting kd_yX8_waiting ⟨Nat.le_of_ble_eq_true rfl, Nat.le_of_ble_eq_true rfl⟩ (by show (cells + 0) + 0 ≤ 603072; omega) (by show (slots + 0) + 0 ≤ 7186538; omega) (Nat.le_of_ble_eq_true rfl) (fun _ w8 r2 => ?_)
  obtain ⟨rfl, I3, L3, rfl, hM3⟩ := r2
  refine JG_eq (w' := wm cy S I3 L3 R2 ++ (w9 ++ wlo cy S G)) (st' := [.int (nI (mMany m 119)), .int (nI (mMany m 119))]) rfl rfl rfl ?_
  refine JG_icmp_eq 2268 (by decide) dL_law_1495 (fun c4 => ?_) (fun c4 => ?_)
  rotate_left
  · exfalso
    have Nc4 : ¬ ((mMany m 119) = (mMany m 119)) := fun q => c4 ((nI_eqL (a := (mMany m 119)) (b := (mMany m 119)) (by omega) (by omega)).mpr q)
    omega
  have Nc4 : (mMany m 119) = (mMany m 119) := (nI_eqL (a := (mMany m 119)) (b := (mMany m 119)) (by omega) (by omega)).mp c4
  refine JG_sub (lv' := [(0, .ref b), (1, .ref (ka S 0 0)), (2, .ref (ka S 30 0)), (3, .ref (ka S 80 0)), (4, .ref (ka S 81 0)), (5, .int (nI z))]) [0, 1, 2, 3, 4, 5] rfl ?_
  exact kk m _ _ _ _ _ _ _ _ ⟨LP, rc, hP⟩ hI (by omega) hM3 (by omega) (by omega)

set_option maxRecDepth 20000 in
set_option maxHeartbeats 1000000 in
theorem lc_waited {cy : Nat → ClassId} {S : Nat → Nat → Nat} {I I2 : kI} {L L2 G : kL} {R R2 : kRf} {LP : List Nat} {m : Mu} {rc : Nat → Nat} {ln qu : List Nat} {lg B : Nat} {cd : Int32} {b Lx z cells slots : Nat} {xs : Nat → Int32}  (hR : Rel m I L R LP rc ln qu lg) (hI : Inv m B) (hB : B + 100000 < 2 ^ 30) (hlg : lg < 2 ^ 30) (hM : MR m cd I2 L2) (hz : z + 4 < Lx) (hLx : Lx ≤ 2560) (hcl : cells + 101 ≤ 603072) (hsl : slots + 1307 ≤ 7186538)  (kk : ∀ (m' : Mu) (B' : Nat) (w9 : va_W) (I2 : kI) (L2 : kL) (cd : Int32) (G : kL) (c' s' : Nat), (∃ LP rc, RelX cy S LP rc m' w9) → Inv m' B' → B' ≤ B + 90000 → MR m' cd I2 L2 → c' ≤ cells + 100 → s' ≤ slots + 1300 → JG RL cL_law 9 cy room_1 (ExL b Lx xs) FinL 2268 [(0, .ref b), (1, .ref (ka S 0 0)), (2, .ref (ka S 30 0)), (3, .ref (ka S 80 0)), (4, .ref (ka S 81 0)), (5, .int (nI z))] [] (wm cy S I2 L2 R2 ++ (w9 ++ wlo cy S G)) c' s') : JG RL cL_law 9 cy room_1 (ExL b Lx xs) FinL 2098 [(0, .ref b), (1, .ref (ka S 0 0)), (2, .ref (ka S 30 0)), (3, .ref (ka S 80 0)), (4, .ref (ka S 81 0)), (5, .int (nI z))] [] (wm cy S I2 L2 R2 ++ (wc cy S I L R LP ++ wlo cy S G)) cells slots := by
  have hl31 : lg < 2 ^ 31 := by omega
  refine JG_aload_n 1 rfl dL_law_2098 ?_
  refine JG_callX7 (As := []) (rest := []) (wm cy S I2 L2 R2) (wlo cy S G) dL_law_2099 (c_X7_waited_s hR hI (by omega) hlg) rfl rfl lm_L_246 kc_yX7_waited ki_yX7_waited kv_yX7_waited kd_yX7_waited ⟨Nat.le_of_ble_eq_true rfl, Nat.le_of_ble_eq_true rfl⟩ (by show cells + 0 ≤ 603072; omega) (by show slots + 0 ≤ 7186538; omega) (Nat.le_of_ble_eq_true rfl) (fun _ w9 r1 => ?_) (fun _ _ h => h.elim)
  obtain ⟨rfl, hP⟩ := r1
  refine JG_eq (w' := wm cy S I2 L2 R2 ++ (w9 ++ wlo cy S G)) (st' := [.long m.2]) rfl rfl rfl ?_
  refine JG_aload_n 2 rfl dL_law_2102 ?_
  refine JG_callX8 (As := []) (rest := [.long m.2]) [] (w9 ++ wlo cy S G) dL_law_2103 (c_X8_waited_s hM hR hI (by omega)) rfl rfl lm_L_250 kc_yX8_waited ki_yX8_waited kv_yX8_waited kd_yX8_waited ⟨Nat.le_of_ble_eq_true rfl, Nat.le_of_ble_eq_true rfl⟩ (by show (cells + 0) + 0 ≤ 603072; omega) (by show (slots + 0) + 0 ≤ 7186538; omega) (Nat.le_of_ble_eq_true rfl) (fun _ w8 r2 => ?_)
  obtain ⟨rfl, I3, L3, rfl, hM3⟩ := r2
  refine JG_eq (w' := wm cy S I3 L3 R2 ++ (w9 ++ wlo cy S G)) (st' := [.long m.2, .long m.2]) rfl rfl rfl ?_
  refine JG_lcmp (rfl) dL_law_2106 ?_
  refine JG_if_eq 2268 (by decide) dL_law_2107 (fun c4 => ?_) (fun c4 => ?_)
  rotate_left
  · exact absurd (by decide) c4
  refine JG_sub (lv' := [(0, .ref b), (1, .ref (ka S 0 0)), (2, .ref (ka S 30 0)), (3, .ref (ka S 80 0)), (4, .ref (ka S 81 0)), (5, .int (nI z))]) [0, 1, 2, 3, 4, 5] rfl ?_
  exact kk m _ _ _ _ _ _ _ _ ⟨LP, rc, hP⟩ hI (by omega) hM3 (by omega) (by omega)

set_option maxRecDepth 20000 in
set_option maxHeartbeats 1000000 in
theorem lc_isInOrder {cy : Nat → ClassId} {S : Nat → Nat → Nat} {I I2 : kI} {L L2 G : kL} {R R2 : kRf} {LP : List Nat} {m : Mu} {rc : Nat → Nat} {ln qu : List Nat} {lg B : Nat} {cd : Int32} {b Lx z cells slots : Nat} {xs : Nat → Int32}  (hR : Rel m I L R LP rc ln qu lg) (hI : Inv m B) (hB : B + 100000 < 2 ^ 30) (hlg : lg < 2 ^ 30) (hM : MR m cd I2 L2) (hz : z + 4 < Lx) (hLx : Lx ≤ 2560) (hcl : cells + 101 ≤ 603072) (hsl : slots + 1307 ≤ 7186538)  (kk : ∀ (m' : Mu) (B' : Nat) (w9 : va_W) (I2 : kI) (L2 : kL) (cd : Int32) (G : kL) (c' s' : Nat), (∃ LP rc, RelX cy S LP rc m' w9) → Inv m' B' → B' ≤ B + 90000 → MR m' cd I2 L2 → c' ≤ cells + 100 → s' ≤ slots + 1300 → JG RL cL_law 9 cy room_1 (ExL b Lx xs) FinL 2268 [(0, .ref b), (1, .ref (ka S 0 0)), (2, .ref (ka S 30 0)), (3, .ref (ka S 80 0)), (4, .ref (ka S 81 0)), (5, .int (nI z))] [] (wm cy S I2 L2 R2 ++ (w9 ++ wlo cy S G)) c' s') : JG RL cL_law 9 cy room_1 (ExL b Lx xs) FinL 2255 [(0, .ref b), (1, .ref (ka S 0 0)), (2, .ref (ka S 30 0)), (3, .ref (ka S 80 0)), (4, .ref (ka S 81 0)), (5, .int (nI z))] [] (wm cy S I2 L2 R2 ++ (wc cy S I L R LP ++ wlo cy S G)) cells slots := by
  have hl31 : lg < 2 ^ 31 := by omega
  refine JG_aload_n 1 rfl dL_law_2255 ?_
  refine JG_callX7 (As := []) (rest := []) (wm cy S I2 L2 R2) (wlo cy S G) dL_law_2256 (c_X7_isInOrder hR hI (by omega) hlg) rfl rfl lm_L_259 kc_yX7_isInOrder ki_yX7_isInOrder kv_yX7_isInOrder kd_yX7_isInOrder ⟨Nat.le_of_ble_eq_true rfl, Nat.le_of_ble_eq_true rfl⟩ (by show cells + 0 ≤ 603072; omega) (by show slots + 0 ≤ 7186538; omega) (Nat.le_of_ble_eq_true rfl) (fun _ w9 r1 => ?_) (fun _ _ h => h.elim)
  obtain ⟨rfl, hP⟩ := r1
  refine JG_eq (w' := wm cy S I2 L2 R2 ++ (w9 ++ wlo cy S G)) (st' := [.int (kb ((!ln.any (fun c => mCan m c)) && ((List.range (mC m)).all (fun c => !(mSpk m c && decide (m.1 56 c < nI (mFirst m c)))))))]) rfl rfl rfl ?_
  refine JG_aload_n 2 rfl dL_law_2259 ?_
  refine JG_callX8 (As := []) (rest := [.int (kb ((!ln.any (fun c => mCan m c)) && ((List.range (mC m)).all (fun c => !(mSpk m c && decide (m.1 56 c < nI (mFirst m c)))))))]) [] (w9 ++ wlo cy S G) dL_law_2260 (c_X8_isInOrder_s hM hR hI (by omega)) rfl rfl lm_L_263 kc_yX8_isInOrder ki_yX8_isInOrder kv_yX8_isInOrder kd_yX8_isInOrder ⟨Nat.le_of_ble_eq_true rfl, Nat.le_of_ble_eq_true rfl⟩ (by show (cells + 0) + 0 ≤ 603072; omega) (by show (slots + 0) + 0 ≤ 7186538; omega) (Nat.le_of_ble_eq_true rfl) (fun _ w8 r2 => ?_)
  obtain ⟨rfl, I3, L3, rfl, hM3⟩ := r2
  refine JG_eq (w' := wm cy S I3 L3 R2 ++ (w9 ++ wlo cy S G)) (st' := [.int (kb ((List.range (mC m)).all (inOk m))), .int (kb ((!ln.any (fun c => mCan m c)) && ((List.range (mC m)).all (fun c => !(mSpk m c && decide (m.1 56 c < nI (mFirst m c)))))))]) rfl rfl rfl ?_
  refine JG_icmp_eq 2268 (by decide) dL_law_2263 (fun c4 => ?_) (fun c4 => ?_)
  rotate_left
  · exfalso
    exact c4 (congrArg kb (inOk_eq hR.2.2.2.1))
  refine JG_sub (lv' := [(0, .ref b), (1, .ref (ka S 0 0)), (2, .ref (ka S 30 0)), (3, .ref (ka S 80 0)), (4, .ref (ka S 81 0)), (5, .int (nI z))]) [0, 1, 2, 3, 4, 5] rfl ?_
  exact kk m _ _ _ _ _ _ _ _ ⟨LP, rc, hP⟩ hI (by omega) hM3 (by omega) (by omega)

