/-! the law's wrappers: each by the contract of what it calls -/
section WX
variable {own : String} {cc : ByteArray} {nL : Nat} {cy : Nat → ClassId} {RM : Room} {Ex : kEx} {F : kFin} {pc : Nat} {lv lv' : List (Nat × Value)} {st rest : List Value} {w : va_W} {cells slots : Nat}
variable {y2 : MethodName} {cc2 : ByteArray} {nL2 : Nat} {ret2 : Option FieldType} {d2 mc2 ms2 : Nat} {Q2 : kQT} {QX2 : kXT} {As : List Value} {index : Nat} {S : Nat → Nat → Nat} {I : kI} {L : kL} {R : kRf} {LP : List Nat}
theorem JG_callX7 (X Y : va_W) (hd : decode cc pc = .ok (.invokevirtual index, 3)) (hcon : Con y2 cc2 nL2 ret2 d2 mc2 ms2 cy (.ref (ka S 0 0) :: As) (wc cy S I L R LP) Q2 QX2) (hw : w = X ++ (wc cy S I L R LP ++ Y)) (h7 : y2.cls = RX7) (hlink : Cond.methodLink own index y2 ∈ kT) (hcode : Cond.code y2 cc2 nL2 ret2 ∈ kT) (hinst : Cond.instanceMethod y2 ∈ kT) (hsel : Cond.selects y2.cls y2 y2 ∈ kT)
    (hy : y2.cls ≠ "java/lang/invoke/MethodHandle" ∧ y2.cls ≠ "java/lang/invoke/VarHandle" ∧ (parseMethodDescriptor y2.desc).map (fun d => d.parameters.length) = some As.length) (hroom : d2 + 1 ≤ RM.frames ∧ 8 + (nL2 + 11) + (40 * d2 + 100) ≤ RM.locals) (hc : cells + mc2 ≤ RM.cells) (hs : slots + ms2 ≤ RM.slots) (hst : (rest.map fun v => v.category).sum ≤ 8)
    (kk : ∀ (r : Option Value) (w2' : va_W), Q2 r w2' → JG own cc nL cy RM Ex F (pc + 3) lv (r.toList ++ rest) (X ++ (w2' ++ Y)) (cells + mc2) (slots + ms2))
    (kx : ∀ (E : String) (w2' : va_W), QX2 E w2' → ∀ q : Nat, JX own cc nL cy RM Ex F pc lv q E (X ++ (w2' ++ Y)) (cells + mc2) (slots + ms2)) : JG own cc nL cy RM Ex F pc lv (As.reverse ++ .ref (ka S 0 0) :: rest) w cells slots := by
  refine JG_callV X Y hd hcon hw ?_ hlink hcode (by rw [h7]; exact kini7) hinst hsel hy hroom hc hs hst kk kx
  obtain ⟨q0, hq, -⟩ := kw_get (S := S) (sh := shA cy S) (I := I) (L := L) (R := R) (n0 LP)
  exact ⟨q0, 9, (RX7, TX7, 11), _, hq, rfl, h7.symm⟩
theorem JG_callX8 (X Y : va_W) (hd : decode cc pc = .ok (.invokevirtual index, 3)) (hcon : Con y2 cc2 nL2 ret2 d2 mc2 ms2 cy (.ref (ka S 30 0) :: As) (wm cy S I L R) Q2 kF) (hw : w = X ++ (wm cy S I L R ++ Y)) (h8 : y2.cls = RX8) (hlink : Cond.methodLink own index y2 ∈ kT) (hcode : Cond.code y2 cc2 nL2 ret2 ∈ kT) (hinst : Cond.instanceMethod y2 ∈ kT) (hsel : Cond.selects y2.cls y2 y2 ∈ kT)
    (hy : y2.cls ≠ "java/lang/invoke/MethodHandle" ∧ y2.cls ≠ "java/lang/invoke/VarHandle" ∧ (parseMethodDescriptor y2.desc).map (fun d => d.parameters.length) = some As.length) (hroom : d2 + 1 ≤ RM.frames ∧ 8 + (nL2 + 11) + (40 * d2 + 100) ≤ RM.locals) (hc : cells + mc2 ≤ RM.cells) (hs : slots + ms2 ≤ RM.slots) (hst : (rest.map fun v => v.category).sum ≤ 8)
    (kk : ∀ (r : Option Value) (w2' : va_W), Q2 r w2' → JG own cc nL cy RM Ex F (pc + 3) lv (r.toList ++ rest) (X ++ (w2' ++ Y)) (cells + mc2) (slots + ms2)) : JG own cc nL cy RM Ex F pc lv (As.reverse ++ .ref (ka S 30 0) :: rest) w cells slots := by
  refine JG_callV X Y hd hcon hw ?_ hlink hcode (by rw [h8]; exact kini8) hinst hsel hy hroom hc hs hst kk (fun _ _ h => h.elim)
  obtain ⟨q0, hq, -⟩ := kw_get (S := S) (sh := shA cy S) (I := I) (L := L) (R := R) n30
  exact ⟨q0, 10, (RX8, TX8, 32), _, hq, rfl, h8.symm⟩
end WX
theorem kiniL : Cond.initialized RL ∈ kT := kT_of (i := 51) (by decide +kernel) rfl

theorem lk_L_8 : Cond.classLink RL 8 "FoghornExchange" ∈ kT := kT_of (i := 72) (by decide +kernel) rfl
theorem lm_L_123 : Cond.methodLink RL 123 yX7_init ∈ kT := kT_of (i := 74) (by decide +kernel) rfl
theorem lm_L_144 : Cond.methodLink RL 144 yX7_stations ∈ kT := kT_of (i := 250) (by decide +kernel) rfl
theorem lm_L_200 : Cond.methodLink RL 200 yX7_calls ∈ kT := kT_of (i := 254) (by decide +kernel) rfl
theorem lm_L_204 : Cond.methodLink RL 204 yX7_waiting ∈ kT := kT_of (i := 258) (by decide +kernel) rfl
theorem lm_L_217 : Cond.methodLink RL 217 yX7_time ∈ kT := kT_of (i := 262) (by decide +kernel) rfl
theorem lm_L_233 : Cond.methodLink RL 233 yX7_logged ∈ kT := kT_of (i := 266) (by decide +kernel) rfl
theorem lm_L_246 : Cond.methodLink RL 246 yX7_waited ∈ kT := kT_of (i := 270) (by decide +kernel) rfl
theorem lm_L_259 : Cond.methodLink RL 259 yX7_isInOrder ∈ kT := kT_of (i := 274) (by decide +kernel) rfl
theorem lm_L_127 : Cond.methodLink RL 127 yL_addStation ∈ kT := kT_of (i := 452) (by decide +kernel) rfl
theorem lk_L_13 : Cond.classLink RL 13 "java/lang/IllegalArgumentException" ∈ kT := kT_of (i := 455) (by decide +kernel) rfl
theorem lk_L_15 : Cond.classLink RL 15 "java/lang/IllegalStateException" ∈ kT := kT_of (i := 456) (by decide +kernel) rfl
theorem lm_L_7 : Cond.methodLink RL 7 yX7_addStation ∈ kT := kT_of (i := 457) (by decide +kernel) rfl
theorem lm_L_137 : Cond.methodLink RL 137 yL_move ∈ kT := kT_of (i := 561) (by decide +kernel) rfl
theorem lk_L_20 : Cond.classLink RL 20 "java/lang/IndexOutOfBoundsException" ∈ kT := kT_of (i := 564) (by decide +kernel) rfl
theorem lm_L_17 : Cond.methodLink RL 17 yX7_move ∈ kT := kT_of (i := 585) (by decide +kernel) rfl
theorem lm_L_140 : Cond.methodLink RL 140 yL_setOn ∈ kT := kT_of (i := 590) (by decide +kernel) rfl
theorem lm_L_22 : Cond.methodLink RL 22 yX7_setOn ∈ kT := kT_of (i := 593) (by decide +kernel) rfl
theorem lm_L_148 : Cond.methodLink RL 148 yL_placeOf ∈ kT := kT_of (i := 601) (by decide +kernel) rfl
theorem lm_L_26 : Cond.methodLink RL 26 yX7_placeOf ∈ kT := kT_of (i := 604) (by decide +kernel) rfl
theorem lm_L_152 : Cond.methodLink RL 152 yL_isOn ∈ kT := kT_of (i := 608) (by decide +kernel) rfl
theorem lm_L_30 : Cond.methodLink RL 30 yX7_isOn ∈ kT := kT_of (i := 611) (by decide +kernel) rfl
theorem lm_L_155 : Cond.methodLink RL 155 yL_hears ∈ kT := kT_of (i := 615) (by decide +kernel) rfl
theorem lm_L_34 : Cond.methodLink RL 34 yX7_hears ∈ kT := kT_of (i := 618) (by decide +kernel) rfl
theorem lm_L_158 : Cond.methodLink RL 158 yL_busyWith ∈ kT := kT_of (i := 628) (by decide +kernel) rfl
theorem lk_L_41 : Cond.classLink RL 41 "java/util/NoSuchElementException" ∈ kT := kT_of (i := 631) (by decide +kernel) rfl
theorem lm_L_38 : Cond.methodLink RL 38 yX7_busyWith ∈ kT := kT_of (i := 632) (by decide +kernel) rfl
theorem lm_L_161 : Cond.methodLink RL 161 yL_relays ∈ kT := kT_of (i := 655) (by decide +kernel) rfl
theorem lm_L_43 : Cond.methodLink RL 43 yX7_relays ∈ kT := kT_of (i := 658) (by decide +kernel) rfl
theorem lm_L_164 : Cond.methodLink RL 164 yL_relaysByJoining ∈ kT := kT_of (i := 670) (by decide +kernel) rfl
theorem lm_L_46 : Cond.methodLink RL 46 yX7_relaysByJoining ∈ kT := kT_of (i := 673) (by decide +kernel) rfl
theorem lm_L_167 : Cond.methodLink RL 167 yL_onWay ∈ kT := kT_of (i := 682) (by decide +kernel) rfl
theorem lm_L_49 : Cond.methodLink RL 49 yX7_onWay ∈ kT := kT_of (i := 685) (by decide +kernel) rfl
theorem lm_L_171 : Cond.methodLink RL 171 yL_call ∈ kT := kT_of (i := 695) (by decide +kernel) rfl
theorem lm_L_53 : Cond.methodLink RL 53 yX7_call ∈ kT := kT_of (i := 698) (by decide +kernel) rfl
theorem lm_L_175 : Cond.methodLink RL 175 yL_cancel ∈ kT := kT_of (i := 783) (by decide +kernel) rfl
theorem lm_L_57 : Cond.methodLink RL 57 yX7_cancel ∈ kT := kT_of (i := 786) (by decide +kernel) rfl
theorem lm_L_178 : Cond.methodLink RL 178 yL_raise ∈ kT := kT_of (i := 799) (by decide +kernel) rfl
theorem lm_L_60 : Cond.methodLink RL 60 yX7_raise ∈ kT := kT_of (i := 802) (by decide +kernel) rfl
theorem lm_L_182 : Cond.methodLink RL 182 yL_stateOf ∈ kT := kT_of (i := 808) (by decide +kernel) rfl
theorem lm_L_64 : Cond.methodLink RL 64 yX7_stateOf ∈ kT := kT_of (i := 811) (by decide +kernel) rfl
theorem lm_L_185 : Cond.methodLink RL 185 yL_urgencyOf ∈ kT := kT_of (i := 815) (by decide +kernel) rfl
theorem lm_L_68 : Cond.methodLink RL 68 yX7_urgencyOf ∈ kT := kT_of (i := 818) (by decide +kernel) rfl
theorem lm_L_188 : Cond.methodLink RL 188 yL_leftOf ∈ kT := kT_of (i := 822) (by decide +kernel) rfl
theorem lm_L_71 : Cond.methodLink RL 71 yX7_leftOf ∈ kT := kT_of (i := 825) (by decide +kernel) rfl
theorem lm_L_191 : Cond.methodLink RL 191 yL_channelOf ∈ kT := kT_of (i := 829) (by decide +kernel) rfl
theorem lm_L_74 : Cond.methodLink RL 74 yX7_channelOf ∈ kT := kT_of (i := 832) (by decide +kernel) rfl
theorem lm_L_194 : Cond.methodLink RL 194 yL_interruptions ∈ kT := kT_of (i := 837) (by decide +kernel) rfl
theorem lm_L_77 : Cond.methodLink RL 77 yX7_interruptions ∈ kT := kT_of (i := 840) (by decide +kernel) rfl
theorem lm_L_197 : Cond.methodLink RL 197 yL_speakerOn ∈ kT := kT_of (i := 844) (by decide +kernel) rfl
theorem lm_L_80 : Cond.methodLink RL 80 yX7_speakerOn ∈ kT := kT_of (i := 847) (by decide +kernel) rfl
theorem lm_L_208 : Cond.methodLink RL 208 yL_inLine ∈ kT := kT_of (i := 857) (by decide +kernel) rfl
theorem lm_L_83 : Cond.methodLink RL 83 yX7_inLine ∈ kT := kT_of (i := 860) (by decide +kernel) rfl
theorem lm_L_211 : Cond.methodLink RL 211 yL_inLineByCounting ∈ kT := kT_of (i := 864) (by decide +kernel) rfl
theorem lm_L_86 : Cond.methodLink RL 86 yX7_inLineByCounting ∈ kT := kT_of (i := 867) (by decide +kernel) rfl
theorem lm_L_214 : Cond.methodLink RL 214 yL_pass ∈ kT := kT_of (i := 872) (by decide +kernel) rfl
theorem lm_L_89 : Cond.methodLink RL 89 yX7_pass ∈ kT := kT_of (i := 875) (by decide +kernel) rfl
theorem lm_L_221 : Cond.methodLink RL 221 yL_setWatch ∈ kT := kT_of (i := 904) (by decide +kernel) rfl
theorem lm_L_92 : Cond.methodLink RL 92 yX7_setWatch ∈ kT := kT_of (i := 907) (by decide +kernel) rfl
theorem lm_L_224 : Cond.methodLink RL 224 yL_report ∈ kT := kT_of (i := 912) (by decide +kernel) rfl
theorem lm_L_95 : Cond.methodLink RL 95 yX7_report ∈ kT := kT_of (i := 915) (by decide +kernel) rfl
theorem lm_L_227 : Cond.methodLink RL 227 yL_sinceReport ∈ kT := kT_of (i := 921) (by decide +kernel) rfl
theorem lm_L_98 : Cond.methodLink RL 98 yX7_sinceReport ∈ kT := kT_of (i := 924) (by decide +kernel) rfl
theorem lm_L_230 : Cond.methodLink RL 230 yL_missed ∈ kT := kT_of (i := 929) (by decide +kernel) rfl
theorem lm_L_101 : Cond.methodLink RL 101 yX7_missed ∈ kT := kT_of (i := 932) (by decide +kernel) rfl
theorem lm_L_237 : Cond.methodLink RL 237 yL_logTime ∈ kT := kT_of (i := 936) (by decide +kernel) rfl
theorem lm_L_104 : Cond.methodLink RL 104 yX7_logTime ∈ kT := kT_of (i := 939) (by decide +kernel) rfl
theorem lm_L_240 : Cond.methodLink RL 240 yL_logKind ∈ kT := kT_of (i := 950) (by decide +kernel) rfl
theorem lm_L_107 : Cond.methodLink RL 107 yX7_logKind ∈ kT := kT_of (i := 953) (by decide +kernel) rfl
theorem lm_L_243 : Cond.methodLink RL 243 yL_logNumber ∈ kT := kT_of (i := 957) (by decide +kernel) rfl
theorem lm_L_110 : Cond.methodLink RL 110 yX7_logNumber ∈ kT := kT_of (i := 960) (by decide +kernel) rfl
theorem lm_L_251 : Cond.methodLink RL 251 yL_meanWait ∈ kT := kT_of (i := 964) (by decide +kernel) rfl
theorem lk_L_117 : Cond.classLink RL 117 "java/lang/ArithmeticException" ∈ kT := kT_of (i := 967) (by decide +kernel) rfl
theorem lm_L_113 : Cond.methodLink RL 113 yX7_meanWait ∈ kT := kT_of (i := 981) (by decide +kernel) rfl
theorem lm_L_255 : Cond.methodLink RL 255 yL_channelShare ∈ kT := kT_of (i := 988) (by decide +kernel) rfl
theorem lm_L_119 : Cond.methodLink RL 119 yX7_channelShare ∈ kT := kT_of (i := 991) (by decide +kernel) rfl
theorem lk_L_124 : Cond.classLink RL 124 "FoghornExchangeModel" ∈ kT := kT_of (i := 1000) (by decide +kernel) rfl
theorem lm_L_126 : Cond.methodLink RL 126 yX8_init ∈ kT := kT_of (i := 1002) (by decide +kernel) rfl
theorem lm_L_133 : Cond.methodLink RL 133 yX8_thrown ∈ kT := kT_of (i := 1105) (by decide +kernel) rfl
theorem lm_L_132 : Cond.methodLink RL 132 yX8_addStation ∈ kT := kT_of (i := 1109) (by decide +kernel) rfl
theorem lm_L_139 : Cond.methodLink RL 139 yX8_move ∈ kT := kT_of (i := 1187) (by decide +kernel) rfl
theorem lm_L_143 : Cond.methodLink RL 143 yX8_setOn ∈ kT := kT_of (i := 1195) (by decide +kernel) rfl
theorem lm_L_147 : Cond.methodLink RL 147 yX8_stations ∈ kT := kT_of (i := 1203) (by decide +kernel) rfl
theorem lm_L_151 : Cond.methodLink RL 151 yX8_placeOf ∈ kT := kT_of (i := 1211) (by decide +kernel) rfl
theorem lm_L_154 : Cond.methodLink RL 154 yX8_isOn ∈ kT := kT_of (i := 1215) (by decide +kernel) rfl
theorem lm_L_157 : Cond.methodLink RL 157 yX8_hears ∈ kT := kT_of (i := 1219) (by decide +kernel) rfl
theorem lm_L_160 : Cond.methodLink RL 160 yX8_busyWith ∈ kT := kT_of (i := 1227) (by decide +kernel) rfl
theorem lm_L_163 : Cond.methodLink RL 163 yX8_relays ∈ kT := kT_of (i := 1231) (by decide +kernel) rfl
theorem lm_L_166 : Cond.methodLink RL 166 yX8_relaysByJoining ∈ kT := kT_of (i := 1239) (by decide +kernel) rfl
theorem lm_L_170 : Cond.methodLink RL 170 yX8_onWay ∈ kT := kT_of (i := 1243) (by decide +kernel) rfl
theorem lm_L_174 : Cond.methodLink RL 174 yX8_call ∈ kT := kT_of (i := 1247) (by decide +kernel) rfl
theorem lm_L_177 : Cond.methodLink RL 177 yX8_cancel ∈ kT := kT_of (i := 1263) (by decide +kernel) rfl
theorem lm_L_181 : Cond.methodLink RL 181 yX8_raise ∈ kT := kT_of (i := 1275) (by decide +kernel) rfl
theorem lm_L_184 : Cond.methodLink RL 184 yX8_stateOf ∈ kT := kT_of (i := 1279) (by decide +kernel) rfl
theorem lm_L_187 : Cond.methodLink RL 187 yX8_urgencyOf ∈ kT := kT_of (i := 1283) (by decide +kernel) rfl
theorem lm_L_190 : Cond.methodLink RL 190 yX8_leftOf ∈ kT := kT_of (i := 1287) (by decide +kernel) rfl
theorem lm_L_193 : Cond.methodLink RL 193 yX8_channelOf ∈ kT := kT_of (i := 1291) (by decide +kernel) rfl
theorem lm_L_196 : Cond.methodLink RL 196 yX8_interruptions ∈ kT := kT_of (i := 1295) (by decide +kernel) rfl
theorem lm_L_199 : Cond.methodLink RL 199 yX8_speakerOn ∈ kT := kT_of (i := 1299) (by decide +kernel) rfl
theorem lm_L_203 : Cond.methodLink RL 203 yX8_calls ∈ kT := kT_of (i := 1307) (by decide +kernel) rfl
theorem lm_L_207 : Cond.methodLink RL 207 yX8_waiting ∈ kT := kT_of (i := 1311) (by decide +kernel) rfl
theorem lm_L_210 : Cond.methodLink RL 210 yX8_inLine ∈ kT := kT_of (i := 1315) (by decide +kernel) rfl
theorem lm_L_213 : Cond.methodLink RL 213 yX8_inLineByCounting ∈ kT := kT_of (i := 1323) (by decide +kernel) rfl
theorem lm_L_216 : Cond.methodLink RL 216 yX8_pass ∈ kT := kT_of (i := 1327) (by decide +kernel) rfl
theorem lm_L_220 : Cond.methodLink RL 220 yX8_time ∈ kT := kT_of (i := 1339) (by decide +kernel) rfl
theorem lm_L_223 : Cond.methodLink RL 223 yX8_setWatch ∈ kT := kT_of (i := 1343) (by decide +kernel) rfl
theorem lm_L_226 : Cond.methodLink RL 226 yX8_report ∈ kT := kT_of (i := 1347) (by decide +kernel) rfl
theorem lm_L_229 : Cond.methodLink RL 229 yX8_sinceReport ∈ kT := kT_of (i := 1351) (by decide +kernel) rfl
theorem lm_L_232 : Cond.methodLink RL 232 yX8_missed ∈ kT := kT_of (i := 1355) (by decide +kernel) rfl
theorem lm_L_236 : Cond.methodLink RL 236 yX8_logged ∈ kT := kT_of (i := 1359) (by decide +kernel) rfl
theorem lm_L_239 : Cond.methodLink RL 239 yX8_logTime ∈ kT := kT_of (i := 1363) (by decide +kernel) rfl
theorem lm_L_242 : Cond.methodLink RL 242 yX8_logKind ∈ kT := kT_of (i := 1375) (by decide +kernel) rfl
theorem lm_L_245 : Cond.methodLink RL 245 yX8_logNumber ∈ kT := kT_of (i := 1379) (by decide +kernel) rfl
theorem lm_L_250 : Cond.methodLink RL 250 yX8_waited ∈ kT := kT_of (i := 1383) (by decide +kernel) rfl
theorem lm_L_254 : Cond.methodLink RL 254 yX8_meanWait ∈ kT := kT_of (i := 1387) (by decide +kernel) rfl
theorem lm_L_258 : Cond.methodLink RL 258 yX8_channelShare ∈ kT := kT_of (i := 1391) (by decide +kernel) rfl
theorem lm_L_263 : Cond.methodLink RL 263 yX8_isInOrder ∈ kT := kT_of (i := 1395) (by decide +kernel) rfl
theorem kw_L_addStation : Cond.codeWith yL_addStation cL_addStation 5 (some .int) [(0, 10, 13, 13), (0, 10, 17, 15)] ∈ kT := kT_of (i := 454) (by decide +kernel) rfl
theorem ks_L_addStation : Cond.static yL_addStation ∈ kT := kT_of (i := 453) (by decide +kernel) rfl
theorem kw_L_move : Cond.codeWith yL_move cL_move 5 (some .int) [(0, 10, 13, 20), (0, 10, 17, 13)] ∈ kT := kT_of (i := 563) (by decide +kernel) rfl
theorem ks_L_move : Cond.static yL_move ∈ kT := kT_of (i := 562) (by decide +kernel) rfl
theorem kw_L_setOn : Cond.codeWith yL_setOn cL_setOn 5 (some .int) [(0, 17, 20, 20)] ∈ kT := kT_of (i := 592) (by decide +kernel) rfl
theorem ks_L_setOn : Cond.static yL_setOn ∈ kT := kT_of (i := 591) (by decide +kernel) rfl
theorem kw_L_placeOf : Cond.codeWith yL_placeOf cL_placeOf 4 (some .int) [(0, 9, 12, 20)] ∈ kT := kT_of (i := 603) (by decide +kernel) rfl
theorem ks_L_placeOf : Cond.static yL_placeOf ∈ kT := kT_of (i := 602) (by decide +kernel) rfl
theorem kw_L_isOn : Cond.codeWith yL_isOn cL_isOn 4 (some .int) [(0, 16, 19, 20)] ∈ kT := kT_of (i := 610) (by decide +kernel) rfl
theorem ks_L_isOn : Cond.static yL_isOn ∈ kT := kT_of (i := 609) (by decide +kernel) rfl
theorem kw_L_hears : Cond.codeWith yL_hears cL_hears 5 (some .int) [(0, 17, 20, 20), (0, 17, 24, 13)] ∈ kT := kT_of (i := 617) (by decide +kernel) rfl
theorem ks_L_hears : Cond.static yL_hears ∈ kT := kT_of (i := 616) (by decide +kernel) rfl
theorem kw_L_busyWith : Cond.codeWith yL_busyWith cL_busyWith 4 (some .int) [(0, 9, 12, 20), (0, 9, 15, 41)] ∈ kT := kT_of (i := 630) (by decide +kernel) rfl
theorem ks_L_busyWith : Cond.static yL_busyWith ∈ kT := kT_of (i := 629) (by decide +kernel) rfl
theorem kw_L_relays : Cond.codeWith yL_relays cL_relays 5 (some .int) [(0, 10, 13, 20), (0, 10, 17, 13), (0, 10, 21, 41)] ∈ kT := kT_of (i := 657) (by decide +kernel) rfl
theorem ks_L_relays : Cond.static yL_relays ∈ kT := kT_of (i := 656) (by decide +kernel) rfl
theorem kw_L_relaysByJoining : Cond.codeWith yL_relaysByJoining cL_relaysByJoining 5 (some .int) [(0, 10, 13, 20), (0, 10, 17, 13), (0, 10, 21, 41)] ∈ kT := kT_of (i := 672) (by decide +kernel) rfl
theorem ks_L_relaysByJoining : Cond.static yL_relaysByJoining ∈ kT := kT_of (i := 671) (by decide +kernel) rfl
theorem kw_L_onWay : Cond.codeWith yL_onWay cL_onWay 6 (some .int) [(0, 12, 15, 20), (0, 12, 19, 13), (0, 12, 23, 41)] ∈ kT := kT_of (i := 684) (by decide +kernel) rfl
theorem ks_L_onWay : Cond.static yL_onWay ∈ kT := kT_of (i := 683) (by decide +kernel) rfl
theorem kw_L_call : Cond.codeWith yL_call cL_call 7 (some .int) [(0, 14, 17, 20), (0, 14, 21, 13), (0, 14, 25, 15)] ∈ kT := kT_of (i := 697) (by decide +kernel) rfl
theorem ks_L_call : Cond.static yL_call ∈ kT := kT_of (i := 696) (by decide +kernel) rfl
theorem kw_L_cancel : Cond.codeWith yL_cancel cL_cancel 4 (some .int) [(0, 9, 12, 41), (0, 9, 15, 15)] ∈ kT := kT_of (i := 785) (by decide +kernel) rfl
theorem ks_L_cancel : Cond.static yL_cancel ∈ kT := kT_of (i := 784) (by decide +kernel) rfl
theorem kw_L_raise : Cond.codeWith yL_raise cL_raise 5 (some .int) [(0, 10, 13, 41), (0, 10, 17, 13), (0, 10, 21, 15)] ∈ kT := kT_of (i := 801) (by decide +kernel) rfl
theorem ks_L_raise : Cond.static yL_raise ∈ kT := kT_of (i := 800) (by decide +kernel) rfl
theorem kw_L_stateOf : Cond.codeWith yL_stateOf cL_stateOf 4 (some .int) [(0, 9, 12, 41)] ∈ kT := kT_of (i := 810) (by decide +kernel) rfl
theorem ks_L_stateOf : Cond.static yL_stateOf ∈ kT := kT_of (i := 809) (by decide +kernel) rfl
theorem kw_L_urgencyOf : Cond.codeWith yL_urgencyOf cL_urgencyOf 4 (some .int) [(0, 9, 12, 41)] ∈ kT := kT_of (i := 817) (by decide +kernel) rfl
theorem ks_L_urgencyOf : Cond.static yL_urgencyOf ∈ kT := kT_of (i := 816) (by decide +kernel) rfl
theorem kw_L_leftOf : Cond.codeWith yL_leftOf cL_leftOf 4 (some .int) [(0, 9, 12, 41)] ∈ kT := kT_of (i := 824) (by decide +kernel) rfl
theorem ks_L_leftOf : Cond.static yL_leftOf ∈ kT := kT_of (i := 823) (by decide +kernel) rfl
theorem kw_L_channelOf : Cond.codeWith yL_channelOf cL_channelOf 4 (some .int) [(0, 9, 12, 41), (0, 9, 15, 15)] ∈ kT := kT_of (i := 831) (by decide +kernel) rfl
theorem ks_L_channelOf : Cond.static yL_channelOf ∈ kT := kT_of (i := 830) (by decide +kernel) rfl
theorem kw_L_interruptions : Cond.codeWith yL_interruptions cL_interruptions 4 (some .int) [(0, 9, 12, 41)] ∈ kT := kT_of (i := 839) (by decide +kernel) rfl
theorem ks_L_interruptions : Cond.static yL_interruptions ∈ kT := kT_of (i := 838) (by decide +kernel) rfl
theorem kw_L_speakerOn : Cond.codeWith yL_speakerOn cL_speakerOn 4 (some .int) [(0, 9, 12, 20), (0, 9, 15, 41)] ∈ kT := kT_of (i := 846) (by decide +kernel) rfl
theorem ks_L_speakerOn : Cond.static yL_speakerOn ∈ kT := kT_of (i := 845) (by decide +kernel) rfl
theorem kw_L_inLine : Cond.codeWith yL_inLine cL_inLine 4 (some .int) [(0, 9, 12, 41)] ∈ kT := kT_of (i := 859) (by decide +kernel) rfl
theorem ks_L_inLine : Cond.static yL_inLine ∈ kT := kT_of (i := 858) (by decide +kernel) rfl
theorem kw_L_inLineByCounting : Cond.codeWith yL_inLineByCounting cL_inLineByCounting 4 (some .int) [(0, 9, 12, 41)] ∈ kT := kT_of (i := 866) (by decide +kernel) rfl
theorem ks_L_inLineByCounting : Cond.static yL_inLineByCounting ∈ kT := kT_of (i := 865) (by decide +kernel) rfl
theorem kw_L_pass : Cond.codeWith yL_pass cL_pass 4 (some .int) [(0, 9, 12, 13)] ∈ kT := kT_of (i := 874) (by decide +kernel) rfl
theorem ks_L_pass : Cond.static yL_pass ∈ kT := kT_of (i := 873) (by decide +kernel) rfl
theorem kw_L_setWatch : Cond.codeWith yL_setWatch cL_setWatch 5 (some .int) [(0, 10, 13, 20), (0, 10, 17, 13)] ∈ kT := kT_of (i := 906) (by decide +kernel) rfl
theorem ks_L_setWatch : Cond.static yL_setWatch ∈ kT := kT_of (i := 905) (by decide +kernel) rfl
theorem kw_L_report : Cond.codeWith yL_report cL_report 4 (some .int) [(0, 9, 12, 20), (0, 9, 15, 15)] ∈ kT := kT_of (i := 914) (by decide +kernel) rfl
theorem ks_L_report : Cond.static yL_report ∈ kT := kT_of (i := 913) (by decide +kernel) rfl
theorem kw_L_sinceReport : Cond.codeWith yL_sinceReport cL_sinceReport 4 (some .int) [(0, 9, 12, 20), (0, 9, 15, 15)] ∈ kT := kT_of (i := 923) (by decide +kernel) rfl
theorem ks_L_sinceReport : Cond.static yL_sinceReport ∈ kT := kT_of (i := 922) (by decide +kernel) rfl
theorem kw_L_missed : Cond.codeWith yL_missed cL_missed 4 (some .int) [(0, 9, 12, 20)] ∈ kT := kT_of (i := 931) (by decide +kernel) rfl
theorem ks_L_missed : Cond.static yL_missed ∈ kT := kT_of (i := 930) (by decide +kernel) rfl
theorem kw_L_logTime : Cond.codeWith yL_logTime cL_logTime 4 (some .int) [(0, 9, 12, 41)] ∈ kT := kT_of (i := 938) (by decide +kernel) rfl
theorem ks_L_logTime : Cond.static yL_logTime ∈ kT := kT_of (i := 937) (by decide +kernel) rfl
theorem kw_L_logKind : Cond.codeWith yL_logKind cL_logKind 4 (some .int) [(0, 9, 12, 41)] ∈ kT := kT_of (i := 952) (by decide +kernel) rfl
theorem ks_L_logKind : Cond.static yL_logKind ∈ kT := kT_of (i := 951) (by decide +kernel) rfl
theorem kw_L_logNumber : Cond.codeWith yL_logNumber cL_logNumber 4 (some .int) [(0, 9, 12, 41)] ∈ kT := kT_of (i := 959) (by decide +kernel) rfl
theorem ks_L_logNumber : Cond.static yL_logNumber ∈ kT := kT_of (i := 958) (by decide +kernel) rfl
theorem kw_L_meanWait : Cond.codeWith yL_meanWait cL_meanWait 3 (some .int) [(0, 7, 10, 117)] ∈ kT := kT_of (i := 966) (by decide +kernel) rfl
theorem ks_L_meanWait : Cond.static yL_meanWait ∈ kT := kT_of (i := 965) (by decide +kernel) rfl
theorem kw_L_channelShare : Cond.codeWith yL_channelShare cL_channelShare 4 (some .int) [(0, 9, 12, 20), (0, 9, 15, 117)] ∈ kT := kT_of (i := 990) (by decide +kernel) rfl
theorem ks_L_channelShare : Cond.static yL_channelShare ∈ kT := kT_of (i := 989) (by decide +kernel) rfl
set_option maxRecDepth 20000 in
set_option maxHeartbeats 1000000 in
theorem w_addStation_s {cy : Nat → ClassId} {S : Nat → Nat → Nat} {I : kI} {L : kL} {R : kRf} {LP : List Nat} {G : kL} {d mc ms : Nat} {p0 p1 : Int32} {Pw : va_W → Prop} {v : Int32}  (hc : Con yX7_addStation cX7_addStation 4 (some .int) d mc ms cy [.ref (ka S 0 0), .int p0, .int p1] (wc cy S I L R LP) (fun r w2 => r = some (.int v) ∧ Pw w2) kF) : ConH [(0, 10, 13, 13), (0, 10, 17, 15)] yL_addStation cL_addStation 5 (some .int) (d + 1) mc ms cy [.ref (ka S 0 0), .int p0, .int p1, .ref (ka S 80 0)] (wc cy S I L R LP ++ wlo cy S G) (fun r w' => r = some (.int 0) ∧ ∃ w9, Pw w9 ∧ w' = w9 ++ wlo cy S (ku G 80 0 0 v.toInt64)) := by
  refine ConH_of (by decide +kernel) (Nat.le_of_ble_eq_true rfl) ?_
  refine JG_eq (lv' := [(0, .ref (ka S 0 0)), (1, .int p0), (2, .int p1), (3, .ref (ka S 80 0))]) rfl rfl rfl ?_
  refine JG_aload_n 3 rfl dL_addStation_0 ?_
  refine JG_iconst (v := 0) (by decide) dL_addStation_1 ?_
  refine JG_aload_n 0 rfl dL_addStation_2 ?_
  refine JG_iload_n 1 rfl dL_addStation_3 ?_
  refine JG_iload_n 2 rfl dL_addStation_4 ?_
  refine JG_callX7 (As := [.int p0, .int p1]) (rest := [.int 0, .ref (ka S 80 0)]) [] (wlo cy S G) dL_addStation_5 hc rfl rfl lm_L_7 kc_yX7_addStation ki_yX7_addStation kv_yX7_addStation kd_yX7_addStation ⟨(by show d + 1 ≤ d + 1; exact Nat.le_refl _), (by show 8 + (4 + 11) + (40 * d + 100) ≤ 40 * (d + 1) + 100; omega)⟩ (by show 0 + mc ≤ mc; omega) (by show 0 + ms ≤ ms; omega) (Nat.le_of_ble_eq_true rfl) (fun r9 w9 h9 => ?_) (fun _ _ h => h.elim)
  obtain ⟨rfl, hP⟩ := h9
  refine JG_eq (w' := w9 ++ wlo cy S G) (st' := [.int v, .int 0, .ref (ka S 80 0)]) rfl rfl rfl ?_
  refine JG_i2l dL_addStation_8 ?_
  refine JG_lastO dL_addStation_9 ?_
  refine JG_goto 21 (by decide) dL_addStation_10 ?_
  refine JG_iconst (v := 0) (by decide) dL_addStation_21 ?_
  exact JG_iretH dL_addStation_22 (⟨rfl, w9, hP, rfl⟩) (by omega) (by omega)

set_option maxRecDepth 20000 in
set_option maxHeartbeats 1000000 in
theorem w_addStation_1 {cy : Nat → ClassId} {S : Nat → Nat → Nat} {I : kI} {L : kL} {R : kRf} {LP : List Nat} {G : kL} {d mc ms : Nat} {p0 p1 : Int32} {Pw : va_W → Prop} (hc : Con yX7_addStation cX7_addStation 4 (some .int) d mc ms cy [.ref (ka S 0 0), .int p0, .int p1] (wc cy S I L R LP) kNo (fun E2 w2 => E2 = "java/lang/IllegalArgumentException" ∧ Pw w2)) : ConH [(0, 10, 13, 13), (0, 10, 17, 15)] yL_addStation cL_addStation 5 (some .int) (d + 1) mc ms cy [.ref (ka S 0 0), .int p0, .int p1, .ref (ka S 80 0)] (wc cy S I L R LP ++ wlo cy S G) (fun r w' => r = some (.int 1) ∧ ∃ w9, Pw w9 ∧ w' = w9 ++ wlo cy S G) := by
  refine ConH_of (by decide +kernel) (Nat.le_of_ble_eq_true rfl) ?_
  refine JG_eq (lv' := [(0, .ref (ka S 0 0)), (1, .int p0), (2, .int p1), (3, .ref (ka S 80 0))]) rfl rfl rfl ?_
  refine JG_aload_n 3 rfl dL_addStation_0 ?_
  refine JG_iconst (v := 0) (by decide) dL_addStation_1 ?_
  refine JG_aload_n 0 rfl dL_addStation_2 ?_
  refine JG_iload_n 1 rfl dL_addStation_3 ?_
  refine JG_iload_n 2 rfl dL_addStation_4 ?_
  refine JG_callX7 (As := [.int p0, .int p1]) (rest := [.int 0, .ref (ka S 80 0)]) [] (wlo cy S G) dL_addStation_5 hc rfl rfl lm_L_7 kc_yX7_addStation ki_yX7_addStation kv_yX7_addStation kd_yX7_addStation ⟨(by show d + 1 ≤ d + 1; exact Nat.le_refl _), (by show 8 + (4 + 11) + (40 * d + 100) ≤ 40 * (d + 1) + 100; omega)⟩ (by show 0 + mc ≤ mc; omega) (by show 0 + ms ≤ ms; omega) (Nat.le_of_ble_eq_true rfl) (fun _ _ h => h.elim) (fun E9 w9 h9 q => ?_)
  obtain ⟨rfl, hP⟩ := h9
  refine JX_catch [] 0 (fun _ _ _ _ _ _ _ _ _ _ _ h => h.1) rfl (by decide) (by decide) lk_L_13 (by decide) (fun j z hj hz => ?_) ?_
  · omega
  refine JG_eq (w' := w9 ++ wlo cy S G) rfl rfl rfl ?_
  refine JG_astore (lv' := [(0, .ref (ka S 0 0)), (1, .int p0), (2, .int p1), (3, .ref (ka S 80 0)), (4, .ref q)]) (by decide) rfl dL_addStation_13 ?_
  refine JG_iconst (v := 1) (by decide) dL_addStation_15 ?_
  exact JG_iretH dL_addStation_16 (⟨rfl, w9, hP, rfl⟩) (by omega) (by omega)

set_option maxRecDepth 20000 in
set_option maxHeartbeats 1000000 in
theorem w_addStation_2 {cy : Nat → ClassId} {S : Nat → Nat → Nat} {I : kI} {L : kL} {R : kRf} {LP : List Nat} {G : kL} {d mc ms : Nat} {p0 p1 : Int32} {Pw : va_W → Prop} (hc : Con yX7_addStation cX7_addStation 4 (some .int) d mc ms cy [.ref (ka S 0 0), .int p0, .int p1] (wc cy S I L R LP) kNo (fun E2 w2 => E2 = "java/lang/IllegalStateException" ∧ Pw w2)) : ConH [(0, 10, 13, 13), (0, 10, 17, 15)] yL_addStation cL_addStation 5 (some .int) (d + 1) mc ms cy [.ref (ka S 0 0), .int p0, .int p1, .ref (ka S 80 0)] (wc cy S I L R LP ++ wlo cy S G) (fun r w' => r = some (.int 2) ∧ ∃ w9, Pw w9 ∧ w' = w9 ++ wlo cy S G) := by
  refine ConH_of (by decide +kernel) (Nat.le_of_ble_eq_true rfl) ?_
  refine JG_eq (lv' := [(0, .ref (ka S 0 0)), (1, .int p0), (2, .int p1), (3, .ref (ka S 80 0))]) rfl rfl rfl ?_
  refine JG_aload_n 3 rfl dL_addStation_0 ?_
  refine JG_iconst (v := 0) (by decide) dL_addStation_1 ?_
  refine JG_aload_n 0 rfl dL_addStation_2 ?_
  refine JG_iload_n 1 rfl dL_addStation_3 ?_
  refine JG_iload_n 2 rfl dL_addStation_4 ?_
  refine JG_callX7 (As := [.int p0, .int p1]) (rest := [.int 0, .ref (ka S 80 0)]) [] (wlo cy S G) dL_addStation_5 hc rfl rfl lm_L_7 kc_yX7_addStation ki_yX7_addStation kv_yX7_addStation kd_yX7_addStation ⟨(by show d + 1 ≤ d + 1; exact Nat.le_refl _), (by show 8 + (4 + 11) + (40 * d + 100) ≤ 40 * (d + 1) + 100; omega)⟩ (by show 0 + mc ≤ mc; omega) (by show 0 + ms ≤ ms; omega) (Nat.le_of_ble_eq_true rfl) (fun _ _ h => h.elim) (fun E9 w9 h9 q => ?_)
  obtain ⟨rfl, hP⟩ := h9
  refine JX_catch [] 1 (fun _ _ _ _ _ _ _ _ _ _ _ h => h.1) rfl (by decide) (by decide) lk_L_15 (by decide) (fun j z hj hz => ?_) ?_
  · have hj2 : j = 0 := by omega
    subst hj2
    cases hz
    exact ⟨by decide, _, lk_L_13, by decide⟩
  refine JG_eq (w' := w9 ++ wlo cy S G) rfl rfl rfl ?_
  refine JG_astore (lv' := [(0, .ref (ka S 0 0)), (1, .int p0), (2, .int p1), (3, .ref (ka S 80 0)), (4, .ref q)]) (by decide) rfl dL_addStation_17 ?_
  refine JG_iconst (v := 2) (by decide) dL_addStation_19 ?_
  exact JG_iretH dL_addStation_20 (⟨rfl, w9, hP, rfl⟩) (by omega) (by omega)

set_option maxRecDepth 20000 in
set_option maxHeartbeats 1000000 in
theorem w_move_s {cy : Nat → ClassId} {S : Nat → Nat → Nat} {I : kI} {L : kL} {R : kRf} {LP : List Nat} {G : kL} {d mc ms : Nat} {p0 p1 : Int32} {Pw : va_W → Prop} {v : Int32}  (hc : Con yX7_move cX7_move 5 (some .int) d mc ms cy [.ref (ka S 0 0), .int p0, .int p1] (wc cy S I L R LP) (fun r w2 => r = some (.int v) ∧ Pw w2) kF) : ConH [(0, 10, 13, 20), (0, 10, 17, 13)] yL_move cL_move 5 (some .int) (d + 1) mc ms cy [.ref (ka S 0 0), .int p0, .int p1, .ref (ka S 80 0)] (wc cy S I L R LP ++ wlo cy S G) (fun r w' => r = some (.int 0) ∧ ∃ w9, Pw w9 ∧ w' = w9 ++ wlo cy S (ku G 80 0 0 v.toInt64)) := by
  refine ConH_of (by decide +kernel) (Nat.le_of_ble_eq_true rfl) ?_
  refine JG_eq (lv' := [(0, .ref (ka S 0 0)), (1, .int p0), (2, .int p1), (3, .ref (ka S 80 0))]) rfl rfl rfl ?_
  refine JG_aload_n 3 rfl dL_move_0 ?_
  refine JG_iconst (v := 0) (by decide) dL_move_1 ?_
  refine JG_aload_n 0 rfl dL_move_2 ?_
  refine JG_iload_n 1 rfl dL_move_3 ?_
  refine JG_iload_n 2 rfl dL_move_4 ?_
  refine JG_callX7 (As := [.int p0, .int p1]) (rest := [.int 0, .ref (ka S 80 0)]) [] (wlo cy S G) dL_move_5 hc rfl rfl lm_L_17 kc_yX7_move ki_yX7_move kv_yX7_move kd_yX7_move ⟨(by show d + 1 ≤ d + 1; exact Nat.le_refl _), (by show 8 + (5 + 11) + (40 * d + 100) ≤ 40 * (d + 1) + 100; omega)⟩ (by show 0 + mc ≤ mc; omega) (by show 0 + ms ≤ ms; omega) (Nat.le_of_ble_eq_true rfl) (fun r9 w9 h9 => ?_) (fun _ _ h => h.elim)
  obtain ⟨rfl, hP⟩ := h9
  refine JG_eq (w' := w9 ++ wlo cy S G) (st' := [.int v, .int 0, .ref (ka S 80 0)]) rfl rfl rfl ?_
  refine JG_i2l dL_move_8 ?_
  refine JG_lastO dL_move_9 ?_
  refine JG_goto 21 (by decide) dL_move_10 ?_
  refine JG_iconst (v := 0) (by decide) dL_move_21 ?_
  exact JG_iretH dL_move_22 (⟨rfl, w9, hP, rfl⟩) (by omega) (by omega)

set_option maxRecDepth 20000 in
set_option maxHeartbeats 1000000 in
theorem w_move_1 {cy : Nat → ClassId} {S : Nat → Nat → Nat} {I : kI} {L : kL} {R : kRf} {LP : List Nat} {G : kL} {d mc ms : Nat} {p0 p1 : Int32} {Pw : va_W → Prop} (hc : Con yX7_move cX7_move 5 (some .int) d mc ms cy [.ref (ka S 0 0), .int p0, .int p1] (wc cy S I L R LP) kNo (fun E2 w2 => E2 = "java/lang/IndexOutOfBoundsException" ∧ Pw w2)) : ConH [(0, 10, 13, 20), (0, 10, 17, 13)] yL_move cL_move 5 (some .int) (d + 1) mc ms cy [.ref (ka S 0 0), .int p0, .int p1, .ref (ka S 80 0)] (wc cy S I L R LP ++ wlo cy S G) (fun r w' => r = some (.int 1) ∧ ∃ w9, Pw w9 ∧ w' = w9 ++ wlo cy S G) := by
  refine ConH_of (by decide +kernel) (Nat.le_of_ble_eq_true rfl) ?_
  refine JG_eq (lv' := [(0, .ref (ka S 0 0)), (1, .int p0), (2, .int p1), (3, .ref (ka S 80 0))]) rfl rfl rfl ?_
  refine JG_aload_n 3 rfl dL_move_0 ?_
  refine JG_iconst (v := 0) (by decide) dL_move_1 ?_
  refine JG_aload_n 0 rfl dL_move_2 ?_
  refine JG_iload_n 1 rfl dL_move_3 ?_
  refine JG_iload_n 2 rfl dL_move_4 ?_
  refine JG_callX7 (As := [.int p0, .int p1]) (rest := [.int 0, .ref (ka S 80 0)]) [] (wlo cy S G) dL_move_5 hc rfl rfl lm_L_17 kc_yX7_move ki_yX7_move kv_yX7_move kd_yX7_move ⟨(by show d + 1 ≤ d + 1; exact Nat.le_refl _), (by show 8 + (5 + 11) + (40 * d + 100) ≤ 40 * (d + 1) + 100; omega)⟩ (by show 0 + mc ≤ mc; omega) (by show 0 + ms ≤ ms; omega) (Nat.le_of_ble_eq_true rfl) (fun _ _ h => h.elim) (fun E9 w9 h9 q => ?_)
  obtain ⟨rfl, hP⟩ := h9
  refine JX_catch [] 0 (fun _ _ _ _ _ _ _ _ _ _ _ h => h.1) rfl (by decide) (by decide) lk_L_20 (by decide) (fun j z hj hz => ?_) ?_
  · omega
  refine JG_eq (w' := w9 ++ wlo cy S G) rfl rfl rfl ?_
  refine JG_astore (lv' := [(0, .ref (ka S 0 0)), (1, .int p0), (2, .int p1), (3, .ref (ka S 80 0)), (4, .ref q)]) (by decide) rfl dL_move_13 ?_
  refine JG_iconst (v := 1) (by decide) dL_move_15 ?_
  exact JG_iretH dL_move_16 (⟨rfl, w9, hP, rfl⟩) (by omega) (by omega)

set_option maxRecDepth 20000 in
set_option maxHeartbeats 1000000 in
theorem w_move_2 {cy : Nat → ClassId} {S : Nat → Nat → Nat} {I : kI} {L : kL} {R : kRf} {LP : List Nat} {G : kL} {d mc ms : Nat} {p0 p1 : Int32} {Pw : va_W → Prop} (hc : Con yX7_move cX7_move 5 (some .int) d mc ms cy [.ref (ka S 0 0), .int p0, .int p1] (wc cy S I L R LP) kNo (fun E2 w2 => E2 = "java/lang/IllegalArgumentException" ∧ Pw w2)) : ConH [(0, 10, 13, 20), (0, 10, 17, 13)] yL_move cL_move 5 (some .int) (d + 1) mc ms cy [.ref (ka S 0 0), .int p0, .int p1, .ref (ka S 80 0)] (wc cy S I L R LP ++ wlo cy S G) (fun r w' => r = some (.int 2) ∧ ∃ w9, Pw w9 ∧ w' = w9 ++ wlo cy S G) := by
  refine ConH_of (by decide +kernel) (Nat.le_of_ble_eq_true rfl) ?_
  refine JG_eq (lv' := [(0, .ref (ka S 0 0)), (1, .int p0), (2, .int p1), (3, .ref (ka S 80 0))]) rfl rfl rfl ?_
  refine JG_aload_n 3 rfl dL_move_0 ?_
  refine JG_iconst (v := 0) (by decide) dL_move_1 ?_
  refine JG_aload_n 0 rfl dL_move_2 ?_
  refine JG_iload_n 1 rfl dL_move_3 ?_
  refine JG_iload_n 2 rfl dL_move_4 ?_
  refine JG_callX7 (As := [.int p0, .int p1]) (rest := [.int 0, .ref (ka S 80 0)]) [] (wlo cy S G) dL_move_5 hc rfl rfl lm_L_17 kc_yX7_move ki_yX7_move kv_yX7_move kd_yX7_move ⟨(by show d + 1 ≤ d + 1; exact Nat.le_refl _), (by show 8 + (5 + 11) + (40 * d + 100) ≤ 40 * (d + 1) + 100; omega)⟩ (by show 0 + mc ≤ mc; omega) (by show 0 + ms ≤ ms; omega) (Nat.le_of_ble_eq_true rfl) (fun _ _ h => h.elim) (fun E9 w9 h9 q => ?_)
  obtain ⟨rfl, hP⟩ := h9
  refine JX_catch [] 1 (fun _ _ _ _ _ _ _ _ _ _ _ h => h.1) rfl (by decide) (by decide) lk_L_13 (by decide) (fun j z hj hz => ?_) ?_
  · have hj2 : j = 0 := by omega
    subst hj2
    cases hz
    exact ⟨by decide, _, lk_L_20, by decide⟩
  refine JG_eq (w' := w9 ++ wlo cy S G) rfl rfl rfl ?_
  refine JG_astore (lv' := [(0, .ref (ka S 0 0)), (1, .int p0), (2, .int p1), (3, .ref (ka S 80 0)), (4, .ref q)]) (by decide) rfl dL_move_17 ?_
  refine JG_iconst (v := 2) (by decide) dL_move_19 ?_
  exact JG_iretH dL_move_20 (⟨rfl, w9, hP, rfl⟩) (by omega) (by omega)

set_option maxRecDepth 20000 in
set_option maxHeartbeats 1000000 in
theorem w_setOn_s {cy : Nat → ClassId} {S : Nat → Nat → Nat} {I : kI} {L : kL} {R : kRf} {LP : List Nat} {G : kL} {d mc ms : Nat} {p0 p1 : Int32} {Pw : va_W → Prop} {v : Int32} (hv : v = 0 ∨ v = 1) (hc : Con yX7_setOn cX7_setOn 6 (some .boolean) d mc ms cy [.ref (ka S 0 0), .int p0, .int p1] (wc cy S I L R LP) (fun r w2 => r = some (.int v) ∧ Pw w2) kF) : ConH [(0, 17, 20, 20)] yL_setOn cL_setOn 5 (some .int) (d + 1) mc ms cy [.ref (ka S 0 0), .int p0, .int p1, .ref (ka S 80 0)] (wc cy S I L R LP ++ wlo cy S G) (fun r w' => r = some (.int 0) ∧ ∃ w9, Pw w9 ∧ w' = w9 ++ wlo cy S (ku G 80 0 0 (if v = 0 then 0 else 1))) := by
  refine ConH_of (by decide +kernel) (Nat.le_of_ble_eq_true rfl) ?_
  refine JG_eq (lv' := [(0, .ref (ka S 0 0)), (1, .int p0), (2, .int p1), (3, .ref (ka S 80 0))]) rfl rfl rfl ?_
  refine JG_aload_n 3 rfl dL_setOn_0 ?_
  refine JG_iconst (v := 0) (by decide) dL_setOn_1 ?_
  refine JG_aload_n 0 rfl dL_setOn_2 ?_
  refine JG_iload_n 1 rfl dL_setOn_3 ?_
  refine JG_iload_n 2 rfl dL_setOn_4 ?_
  refine JG_callX7 (As := [.int p0, .int p1]) (rest := [.int 0, .ref (ka S 80 0)]) [] (wlo cy S G) dL_setOn_5 hc rfl rfl lm_L_22 kc_yX7_setOn ki_yX7_setOn kv_yX7_setOn kd_yX7_setOn ⟨(by show d + 1 ≤ d + 1; exact Nat.le_refl _), (by show 8 + (6 + 11) + (40 * d + 100) ≤ 40 * (d + 1) + 100; omega)⟩ (by show 0 + mc ≤ mc; omega) (by show 0 + ms ≤ ms; omega) (Nat.le_of_ble_eq_true rfl) (fun r9 w9 h9 => ?_) (fun _ _ h => h.elim)
  obtain ⟨rfl, hP⟩ := h9
  refine JG_eq (w' := w9 ++ wlo cy S G) (st' := [.int v, .int 0, .ref (ka S 80 0)]) rfl rfl rfl ?_
  rcases hv with rfl | rfl
  · skip
    refine JG_if_eq 15 (by decide) dL_setOn_8 (fun c1 => ?_) (fun c1 => ?_)
    rotate_left
    · exact absurd (by decide) c1
    refine JG_lconst (v := 0) (by decide) dL_setOn_15 ?_
    refine JG_lastO dL_setOn_16 ?_
    refine JG_goto 24 (by decide) dL_setOn_17 ?_
    refine JG_iconst (v := 0) (by decide) dL_setOn_24 ?_
    exact JG_iretH dL_setOn_25 (⟨rfl, w9, hP, rfl⟩) (by omega) (by omega)
  · skip
    refine JG_if_eq 15 (by decide) dL_setOn_8 (fun c2 => ?_) (fun c2 => ?_)
    · exact absurd c2 (by decide)
    refine JG_lconst (v := 1) (by decide) dL_setOn_11 ?_
    refine JG_goto 16 (by decide) dL_setOn_12 ?_
    refine JG_lastO dL_setOn_16 ?_
    refine JG_goto 24 (by decide) dL_setOn_17 ?_
    refine JG_iconst (v := 0) (by decide) dL_setOn_24 ?_
    exact JG_iretH dL_setOn_25 (⟨rfl, w9, hP, rfl⟩) (by omega) (by omega)

set_option maxRecDepth 20000 in
set_option maxHeartbeats 1000000 in
theorem w_setOn_1 {cy : Nat → ClassId} {S : Nat → Nat → Nat} {I : kI} {L : kL} {R : kRf} {LP : List Nat} {G : kL} {d mc ms : Nat} {p0 p1 : Int32} {Pw : va_W → Prop} (hc : Con yX7_setOn cX7_setOn 6 (some .boolean) d mc ms cy [.ref (ka S 0 0), .int p0, .int p1] (wc cy S I L R LP) kNo (fun E2 w2 => E2 = "java/lang/IndexOutOfBoundsException" ∧ Pw w2)) : ConH [(0, 17, 20, 20)] yL_setOn cL_setOn 5 (some .int) (d + 1) mc ms cy [.ref (ka S 0 0), .int p0, .int p1, .ref (ka S 80 0)] (wc cy S I L R LP ++ wlo cy S G) (fun r w' => r = some (.int 1) ∧ ∃ w9, Pw w9 ∧ w' = w9 ++ wlo cy S G) := by
  refine ConH_of (by decide +kernel) (Nat.le_of_ble_eq_true rfl) ?_
  refine JG_eq (lv' := [(0, .ref (ka S 0 0)), (1, .int p0), (2, .int p1), (3, .ref (ka S 80 0))]) rfl rfl rfl ?_
  refine JG_aload_n 3 rfl dL_setOn_0 ?_
  refine JG_iconst (v := 0) (by decide) dL_setOn_1 ?_
  refine JG_aload_n 0 rfl dL_setOn_2 ?_
  refine JG_iload_n 1 rfl dL_setOn_3 ?_
  refine JG_iload_n 2 rfl dL_setOn_4 ?_
  refine JG_callX7 (As := [.int p0, .int p1]) (rest := [.int 0, .ref (ka S 80 0)]) [] (wlo cy S G) dL_setOn_5 hc rfl rfl lm_L_22 kc_yX7_setOn ki_yX7_setOn kv_yX7_setOn kd_yX7_setOn ⟨(by show d + 1 ≤ d + 1; exact Nat.le_refl _), (by show 8 + (6 + 11) + (40 * d + 100) ≤ 40 * (d + 1) + 100; omega)⟩ (by show 0 + mc ≤ mc; omega) (by show 0 + ms ≤ ms; omega) (Nat.le_of_ble_eq_true rfl) (fun _ _ h => h.elim) (fun E9 w9 h9 q => ?_)
  obtain ⟨rfl, hP⟩ := h9
  refine JX_catch [] 0 (fun _ _ _ _ _ _ _ _ _ _ _ h => h.1) rfl (by decide) (by decide) lk_L_20 (by decide) (fun j z hj hz => ?_) ?_
  · omega
  refine JG_eq (w' := w9 ++ wlo cy S G) rfl rfl rfl ?_
  refine JG_astore (lv' := [(0, .ref (ka S 0 0)), (1, .int p0), (2, .int p1), (3, .ref (ka S 80 0)), (4, .ref q)]) (by decide) rfl dL_setOn_20 ?_
  refine JG_iconst (v := 1) (by decide) dL_setOn_22 ?_
  exact JG_iretH dL_setOn_23 (⟨rfl, w9, hP, rfl⟩) (by omega) (by omega)

set_option maxRecDepth 20000 in
set_option maxHeartbeats 1000000 in
theorem w_placeOf_s {cy : Nat → ClassId} {S : Nat → Nat → Nat} {I : kI} {L : kL} {R : kRf} {LP : List Nat} {G : kL} {d mc ms : Nat} {p0 : Int32} {Pw : va_W → Prop} {v : Int32}  (hc : Con yX7_placeOf cX7_placeOf 2 (some .int) d mc ms cy [.ref (ka S 0 0), .int p0] (wc cy S I L R LP) (fun r w2 => r = some (.int v) ∧ Pw w2) kF) : ConH [(0, 9, 12, 20)] yL_placeOf cL_placeOf 4 (some .int) (d + 1) mc ms cy [.ref (ka S 0 0), .int p0, .ref (ka S 80 0)] (wc cy S I L R LP ++ wlo cy S G) (fun r w' => r = some (.int 0) ∧ ∃ w9, Pw w9 ∧ w' = w9 ++ wlo cy S (ku G 80 0 0 v.toInt64)) := by
  refine ConH_of (by decide +kernel) (Nat.le_of_ble_eq_true rfl) ?_
  refine JG_eq (lv' := [(0, .ref (ka S 0 0)), (1, .int p0), (2, .ref (ka S 80 0))]) rfl rfl rfl ?_
  refine JG_aload_n 2 rfl dL_placeOf_0 ?_
  refine JG_iconst (v := 0) (by decide) dL_placeOf_1 ?_
  refine JG_aload_n 0 rfl dL_placeOf_2 ?_
  refine JG_iload_n 1 rfl dL_placeOf_3 ?_
  refine JG_callX7 (As := [.int p0]) (rest := [.int 0, .ref (ka S 80 0)]) [] (wlo cy S G) dL_placeOf_4 hc rfl rfl lm_L_26 kc_yX7_placeOf ki_yX7_placeOf kv_yX7_placeOf kd_yX7_placeOf ⟨(by show d + 1 ≤ d + 1; exact Nat.le_refl _), (by show 8 + (2 + 11) + (40 * d + 100) ≤ 40 * (d + 1) + 100; omega)⟩ (by show 0 + mc ≤ mc; omega) (by show 0 + ms ≤ ms; omega) (Nat.le_of_ble_eq_true rfl) (fun r9 w9 h9 => ?_) (fun _ _ h => h.elim)
  obtain ⟨rfl, hP⟩ := h9
  refine JG_eq (w' := w9 ++ wlo cy S G) (st' := [.int v, .int 0, .ref (ka S 80 0)]) rfl rfl rfl ?_
  refine JG_i2l dL_placeOf_7 ?_
  refine JG_lastO dL_placeOf_8 ?_
  refine JG_goto 15 (by decide) dL_placeOf_9 ?_
  refine JG_iconst (v := 0) (by decide) dL_placeOf_15 ?_
  exact JG_iretH dL_placeOf_16 (⟨rfl, w9, hP, rfl⟩) (by omega) (by omega)

set_option maxRecDepth 20000 in
set_option maxHeartbeats 1000000 in
theorem w_placeOf_1 {cy : Nat → ClassId} {S : Nat → Nat → Nat} {I : kI} {L : kL} {R : kRf} {LP : List Nat} {G : kL} {d mc ms : Nat} {p0 : Int32} {Pw : va_W → Prop} (hc : Con yX7_placeOf cX7_placeOf 2 (some .int) d mc ms cy [.ref (ka S 0 0), .int p0] (wc cy S I L R LP) kNo (fun E2 w2 => E2 = "java/lang/IndexOutOfBoundsException" ∧ Pw w2)) : ConH [(0, 9, 12, 20)] yL_placeOf cL_placeOf 4 (some .int) (d + 1) mc ms cy [.ref (ka S 0 0), .int p0, .ref (ka S 80 0)] (wc cy S I L R LP ++ wlo cy S G) (fun r w' => r = some (.int 1) ∧ ∃ w9, Pw w9 ∧ w' = w9 ++ wlo cy S G) := by
  refine ConH_of (by decide +kernel) (Nat.le_of_ble_eq_true rfl) ?_
  refine JG_eq (lv' := [(0, .ref (ka S 0 0)), (1, .int p0), (2, .ref (ka S 80 0))]) rfl rfl rfl ?_
  refine JG_aload_n 2 rfl dL_placeOf_0 ?_
  refine JG_iconst (v := 0) (by decide) dL_placeOf_1 ?_
  refine JG_aload_n 0 rfl dL_placeOf_2 ?_
  refine JG_iload_n 1 rfl dL_placeOf_3 ?_
  refine JG_callX7 (As := [.int p0]) (rest := [.int 0, .ref (ka S 80 0)]) [] (wlo cy S G) dL_placeOf_4 hc rfl rfl lm_L_26 kc_yX7_placeOf ki_yX7_placeOf kv_yX7_placeOf kd_yX7_placeOf ⟨(by show d + 1 ≤ d + 1; exact Nat.le_refl _), (by show 8 + (2 + 11) + (40 * d + 100) ≤ 40 * (d + 1) + 100; omega)⟩ (by show 0 + mc ≤ mc; omega) (by show 0 + ms ≤ ms; omega) (Nat.le_of_ble_eq_true rfl) (fun _ _ h => h.elim) (fun E9 w9 h9 q => ?_)
  obtain ⟨rfl, hP⟩ := h9
  refine JX_catch [] 0 (fun _ _ _ _ _ _ _ _ _ _ _ h => h.1) rfl (by decide) (by decide) lk_L_20 (by decide) (fun j z hj hz => ?_) ?_
  · omega
  refine JG_eq (w' := w9 ++ wlo cy S G) rfl rfl rfl ?_
  refine JG_astore_n (lv' := [(0, .ref (ka S 0 0)), (1, .int p0), (2, .ref (ka S 80 0)), (3, .ref q)]) (by decide) rfl dL_placeOf_12 ?_
  refine JG_iconst (v := 1) (by decide) dL_placeOf_13 ?_
  exact JG_iretH dL_placeOf_14 (⟨rfl, w9, hP, rfl⟩) (by omega) (by omega)

set_option maxRecDepth 20000 in
set_option maxHeartbeats 1000000 in
theorem w_isOn_s {cy : Nat → ClassId} {S : Nat → Nat → Nat} {I : kI} {L : kL} {R : kRf} {LP : List Nat} {G : kL} {d mc ms : Nat} {p0 : Int32} {Pw : va_W → Prop} {v : Int32} (hv : v = 0 ∨ v = 1) (hc : Con yX7_isOn cX7_isOn 2 (some .boolean) d mc ms cy [.ref (ka S 0 0), .int p0] (wc cy S I L R LP) (fun r w2 => r = some (.int v) ∧ Pw w2) kF) : ConH [(0, 16, 19, 20)] yL_isOn cL_isOn 4 (some .int) (d + 1) mc ms cy [.ref (ka S 0 0), .int p0, .ref (ka S 80 0)] (wc cy S I L R LP ++ wlo cy S G) (fun r w' => r = some (.int 0) ∧ ∃ w9, Pw w9 ∧ w' = w9 ++ wlo cy S (ku G 80 0 0 (if v = 0 then 0 else 1))) := by
  refine ConH_of (by decide +kernel) (Nat.le_of_ble_eq_true rfl) ?_
  refine JG_eq (lv' := [(0, .ref (ka S 0 0)), (1, .int p0), (2, .ref (ka S 80 0))]) rfl rfl rfl ?_
  refine JG_aload_n 2 rfl dL_isOn_0 ?_
  refine JG_iconst (v := 0) (by decide) dL_isOn_1 ?_
  refine JG_aload_n 0 rfl dL_isOn_2 ?_
  refine JG_iload_n 1 rfl dL_isOn_3 ?_
  refine JG_callX7 (As := [.int p0]) (rest := [.int 0, .ref (ka S 80 0)]) [] (wlo cy S G) dL_isOn_4 hc rfl rfl lm_L_30 kc_yX7_isOn ki_yX7_isOn kv_yX7_isOn kd_yX7_isOn ⟨(by show d + 1 ≤ d + 1; exact Nat.le_refl _), (by show 8 + (2 + 11) + (40 * d + 100) ≤ 40 * (d + 1) + 100; omega)⟩ (by show 0 + mc ≤ mc; omega) (by show 0 + ms ≤ ms; omega) (Nat.le_of_ble_eq_true rfl) (fun r9 w9 h9 => ?_) (fun _ _ h => h.elim)
  obtain ⟨rfl, hP⟩ := h9
  refine JG_eq (w' := w9 ++ wlo cy S G) (st' := [.int v, .int 0, .ref (ka S 80 0)]) rfl rfl rfl ?_
  rcases hv with rfl | rfl
  · skip
    refine JG_if_eq 14 (by decide) dL_isOn_7 (fun c1 => ?_) (fun c1 => ?_)
    rotate_left
    · exact absurd (by decide) c1
    refine JG_lconst (v := 0) (by decide) dL_isOn_14 ?_
    refine JG_lastO dL_isOn_15 ?_
    refine JG_goto 22 (by decide) dL_isOn_16 ?_
    refine JG_iconst (v := 0) (by decide) dL_isOn_22 ?_
    exact JG_iretH dL_isOn_23 (⟨rfl, w9, hP, rfl⟩) (by omega) (by omega)
  · skip
    refine JG_if_eq 14 (by decide) dL_isOn_7 (fun c2 => ?_) (fun c2 => ?_)
    · exact absurd c2 (by decide)
    refine JG_lconst (v := 1) (by decide) dL_isOn_10 ?_
    refine JG_goto 15 (by decide) dL_isOn_11 ?_
    refine JG_lastO dL_isOn_15 ?_
    refine JG_goto 22 (by decide) dL_isOn_16 ?_
    refine JG_iconst (v := 0) (by decide) dL_isOn_22 ?_
    exact JG_iretH dL_isOn_23 (⟨rfl, w9, hP, rfl⟩) (by omega) (by omega)

set_option maxRecDepth 20000 in
set_option maxHeartbeats 1000000 in
theorem w_isOn_1 {cy : Nat → ClassId} {S : Nat → Nat → Nat} {I : kI} {L : kL} {R : kRf} {LP : List Nat} {G : kL} {d mc ms : Nat} {p0 : Int32} {Pw : va_W → Prop} (hc : Con yX7_isOn cX7_isOn 2 (some .boolean) d mc ms cy [.ref (ka S 0 0), .int p0] (wc cy S I L R LP) kNo (fun E2 w2 => E2 = "java/lang/IndexOutOfBoundsException" ∧ Pw w2)) : ConH [(0, 16, 19, 20)] yL_isOn cL_isOn 4 (some .int) (d + 1) mc ms cy [.ref (ka S 0 0), .int p0, .ref (ka S 80 0)] (wc cy S I L R LP ++ wlo cy S G) (fun r w' => r = some (.int 1) ∧ ∃ w9, Pw w9 ∧ w' = w9 ++ wlo cy S G) := by
  refine ConH_of (by decide +kernel) (Nat.le_of_ble_eq_true rfl) ?_
  refine JG_eq (lv' := [(0, .ref (ka S 0 0)), (1, .int p0), (2, .ref (ka S 80 0))]) rfl rfl rfl ?_
  refine JG_aload_n 2 rfl dL_isOn_0 ?_
  refine JG_iconst (v := 0) (by decide) dL_isOn_1 ?_
  refine JG_aload_n 0 rfl dL_isOn_2 ?_
  refine JG_iload_n 1 rfl dL_isOn_3 ?_
  refine JG_callX7 (As := [.int p0]) (rest := [.int 0, .ref (ka S 80 0)]) [] (wlo cy S G) dL_isOn_4 hc rfl rfl lm_L_30 kc_yX7_isOn ki_yX7_isOn kv_yX7_isOn kd_yX7_isOn ⟨(by show d + 1 ≤ d + 1; exact Nat.le_refl _), (by show 8 + (2 + 11) + (40 * d + 100) ≤ 40 * (d + 1) + 100; omega)⟩ (by show 0 + mc ≤ mc; omega) (by show 0 + ms ≤ ms; omega) (Nat.le_of_ble_eq_true rfl) (fun _ _ h => h.elim) (fun E9 w9 h9 q => ?_)
  obtain ⟨rfl, hP⟩ := h9
  refine JX_catch [] 0 (fun _ _ _ _ _ _ _ _ _ _ _ h => h.1) rfl (by decide) (by decide) lk_L_20 (by decide) (fun j z hj hz => ?_) ?_
  · omega
  refine JG_eq (w' := w9 ++ wlo cy S G) rfl rfl rfl ?_
  refine JG_astore_n (lv' := [(0, .ref (ka S 0 0)), (1, .int p0), (2, .ref (ka S 80 0)), (3, .ref q)]) (by decide) rfl dL_isOn_19 ?_
  refine JG_iconst (v := 1) (by decide) dL_isOn_20 ?_
  exact JG_iretH dL_isOn_21 (⟨rfl, w9, hP, rfl⟩) (by omega) (by omega)

set_option maxRecDepth 20000 in
set_option maxHeartbeats 1000000 in
theorem w_hears_s {cy : Nat → ClassId} {S : Nat → Nat → Nat} {I : kI} {L : kL} {R : kRf} {LP : List Nat} {G : kL} {d mc ms : Nat} {p0 p1 : Int32} {Pw : va_W → Prop} {v : Int32} (hv : v = 0 ∨ v = 1) (hc : Con yX7_hears cX7_hears 3 (some .boolean) d mc ms cy [.ref (ka S 0 0), .int p0, .int p1] (wc cy S I L R LP) (fun r w2 => r = some (.int v) ∧ Pw w2) kF) : ConH [(0, 17, 20, 20), (0, 17, 24, 13)] yL_hears cL_hears 5 (some .int) (d + 1) mc ms cy [.ref (ka S 0 0), .int p0, .int p1, .ref (ka S 80 0)] (wc cy S I L R LP ++ wlo cy S G) (fun r w' => r = some (.int 0) ∧ ∃ w9, Pw w9 ∧ w' = w9 ++ wlo cy S (ku G 80 0 0 (if v = 0 then 0 else 1))) := by
  refine ConH_of (by decide +kernel) (Nat.le_of_ble_eq_true rfl) ?_
  refine JG_eq (lv' := [(0, .ref (ka S 0 0)), (1, .int p0), (2, .int p1), (3, .ref (ka S 80 0))]) rfl rfl rfl ?_
  refine JG_aload_n 3 rfl dL_hears_0 ?_
  refine JG_iconst (v := 0) (by decide) dL_hears_1 ?_
  refine JG_aload_n 0 rfl dL_hears_2 ?_
  refine JG_iload_n 1 rfl dL_hears_3 ?_
  refine JG_iload_n 2 rfl dL_hears_4 ?_
  refine JG_callX7 (As := [.int p0, .int p1]) (rest := [.int 0, .ref (ka S 80 0)]) [] (wlo cy S G) dL_hears_5 hc rfl rfl lm_L_34 kc_yX7_hears ki_yX7_hears kv_yX7_hears kd_yX7_hears ⟨(by show d + 1 ≤ d + 1; exact Nat.le_refl _), (by show 8 + (3 + 11) + (40 * d + 100) ≤ 40 * (d + 1) + 100; omega)⟩ (by show 0 + mc ≤ mc; omega) (by show 0 + ms ≤ ms; omega) (Nat.le_of_ble_eq_true rfl) (fun r9 w9 h9 => ?_) (fun _ _ h => h.elim)
  obtain ⟨rfl, hP⟩ := h9
  refine JG_eq (w' := w9 ++ wlo cy S G) (st' := [.int v, .int 0, .ref (ka S 80 0)]) rfl rfl rfl ?_
  rcases hv with rfl | rfl
  · skip
    refine JG_if_eq 15 (by decide) dL_hears_8 (fun c1 => ?_) (fun c1 => ?_)
    rotate_left
    · exact absurd (by decide) c1
    refine JG_lconst (v := 0) (by decide) dL_hears_15 ?_
    refine JG_lastO dL_hears_16 ?_
    refine JG_goto 28 (by decide) dL_hears_17 ?_
    refine JG_iconst (v := 0) (by decide) dL_hears_28 ?_
    exact JG_iretH dL_hears_29 (⟨rfl, w9, hP, rfl⟩) (by omega) (by omega)
  · skip
    refine JG_if_eq 15 (by decide) dL_hears_8 (fun c2 => ?_) (fun c2 => ?_)
    · exact absurd c2 (by decide)
    refine JG_lconst (v := 1) (by decide) dL_hears_11 ?_
    refine JG_goto 16 (by decide) dL_hears_12 ?_
    refine JG_lastO dL_hears_16 ?_
    refine JG_goto 28 (by decide) dL_hears_17 ?_
    refine JG_iconst (v := 0) (by decide) dL_hears_28 ?_
    exact JG_iretH dL_hears_29 (⟨rfl, w9, hP, rfl⟩) (by omega) (by omega)

set_option maxRecDepth 20000 in
set_option maxHeartbeats 1000000 in
theorem w_hears_1 {cy : Nat → ClassId} {S : Nat → Nat → Nat} {I : kI} {L : kL} {R : kRf} {LP : List Nat} {G : kL} {d mc ms : Nat} {p0 p1 : Int32} {Pw : va_W → Prop} (hc : Con yX7_hears cX7_hears 3 (some .boolean) d mc ms cy [.ref (ka S 0 0), .int p0, .int p1] (wc cy S I L R LP) kNo (fun E2 w2 => E2 = "java/lang/IndexOutOfBoundsException" ∧ Pw w2)) : ConH [(0, 17, 20, 20), (0, 17, 24, 13)] yL_hears cL_hears 5 (some .int) (d + 1) mc ms cy [.ref (ka S 0 0), .int p0, .int p1, .ref (ka S 80 0)] (wc cy S I L R LP ++ wlo cy S G) (fun r w' => r = some (.int 1) ∧ ∃ w9, Pw w9 ∧ w' = w9 ++ wlo cy S G) := by
  refine ConH_of (by decide +kernel) (Nat.le_of_ble_eq_true rfl) ?_
  refine JG_eq (lv' := [(0, .ref (ka S 0 0)), (1, .int p0), (2, .int p1), (3, .ref (ka S 80 0))]) rfl rfl rfl ?_
  refine JG_aload_n 3 rfl dL_hears_0 ?_
  refine JG_iconst (v := 0) (by decide) dL_hears_1 ?_
  refine JG_aload_n 0 rfl dL_hears_2 ?_
  refine JG_iload_n 1 rfl dL_hears_3 ?_
  refine JG_iload_n 2 rfl dL_hears_4 ?_
  refine JG_callX7 (As := [.int p0, .int p1]) (rest := [.int 0, .ref (ka S 80 0)]) [] (wlo cy S G) dL_hears_5 hc rfl rfl lm_L_34 kc_yX7_hears ki_yX7_hears kv_yX7_hears kd_yX7_hears ⟨(by show d + 1 ≤ d + 1; exact Nat.le_refl _), (by show 8 + (3 + 11) + (40 * d + 100) ≤ 40 * (d + 1) + 100; omega)⟩ (by show 0 + mc ≤ mc; omega) (by show 0 + ms ≤ ms; omega) (Nat.le_of_ble_eq_true rfl) (fun _ _ h => h.elim) (fun E9 w9 h9 q => ?_)
  obtain ⟨rfl, hP⟩ := h9
  refine JX_catch [] 0 (fun _ _ _ _ _ _ _ _ _ _ _ h => h.1) rfl (by decide) (by decide) lk_L_20 (by decide) (fun j z hj hz => ?_) ?_
  · omega
  refine JG_eq (w' := w9 ++ wlo cy S G) rfl rfl rfl ?_
  refine JG_astore (lv' := [(0, .ref (ka S 0 0)), (1, .int p0), (2, .int p1), (3, .ref (ka S 80 0)), (4, .ref q)]) (by decide) rfl dL_hears_20 ?_
  refine JG_iconst (v := 1) (by decide) dL_hears_22 ?_
  exact JG_iretH dL_hears_23 (⟨rfl, w9, hP, rfl⟩) (by omega) (by omega)

set_option maxRecDepth 20000 in
set_option maxHeartbeats 1000000 in
theorem w_hears_2 {cy : Nat → ClassId} {S : Nat → Nat → Nat} {I : kI} {L : kL} {R : kRf} {LP : List Nat} {G : kL} {d mc ms : Nat} {p0 p1 : Int32} {Pw : va_W → Prop} (hc : Con yX7_hears cX7_hears 3 (some .boolean) d mc ms cy [.ref (ka S 0 0), .int p0, .int p1] (wc cy S I L R LP) kNo (fun E2 w2 => E2 = "java/lang/IllegalArgumentException" ∧ Pw w2)) : ConH [(0, 17, 20, 20), (0, 17, 24, 13)] yL_hears cL_hears 5 (some .int) (d + 1) mc ms cy [.ref (ka S 0 0), .int p0, .int p1, .ref (ka S 80 0)] (wc cy S I L R LP ++ wlo cy S G) (fun r w' => r = some (.int 2) ∧ ∃ w9, Pw w9 ∧ w' = w9 ++ wlo cy S G) := by
  refine ConH_of (by decide +kernel) (Nat.le_of_ble_eq_true rfl) ?_
  refine JG_eq (lv' := [(0, .ref (ka S 0 0)), (1, .int p0), (2, .int p1), (3, .ref (ka S 80 0))]) rfl rfl rfl ?_
  refine JG_aload_n 3 rfl dL_hears_0 ?_
  refine JG_iconst (v := 0) (by decide) dL_hears_1 ?_
  refine JG_aload_n 0 rfl dL_hears_2 ?_
  refine JG_iload_n 1 rfl dL_hears_3 ?_
  refine JG_iload_n 2 rfl dL_hears_4 ?_
  refine JG_callX7 (As := [.int p0, .int p1]) (rest := [.int 0, .ref (ka S 80 0)]) [] (wlo cy S G) dL_hears_5 hc rfl rfl lm_L_34 kc_yX7_hears ki_yX7_hears kv_yX7_hears kd_yX7_hears ⟨(by show d + 1 ≤ d + 1; exact Nat.le_refl _), (by show 8 + (3 + 11) + (40 * d + 100) ≤ 40 * (d + 1) + 100; omega)⟩ (by show 0 + mc ≤ mc; omega) (by show 0 + ms ≤ ms; omega) (Nat.le_of_ble_eq_true rfl) (fun _ _ h => h.elim) (fun E9 w9 h9 q => ?_)
  obtain ⟨rfl, hP⟩ := h9
  refine JX_catch [] 1 (fun _ _ _ _ _ _ _ _ _ _ _ h => h.1) rfl (by decide) (by decide) lk_L_13 (by decide) (fun j z hj hz => ?_) ?_
  · have hj2 : j = 0 := by omega
    subst hj2
    cases hz
    exact ⟨by decide, _, lk_L_20, by decide⟩
  refine JG_eq (w' := w9 ++ wlo cy S G) rfl rfl rfl ?_
  refine JG_astore (lv' := [(0, .ref (ka S 0 0)), (1, .int p0), (2, .int p1), (3, .ref (ka S 80 0)), (4, .ref q)]) (by decide) rfl dL_hears_24 ?_
  refine JG_iconst (v := 2) (by decide) dL_hears_26 ?_
  exact JG_iretH dL_hears_27 (⟨rfl, w9, hP, rfl⟩) (by omega) (by omega)

set_option maxRecDepth 20000 in
set_option maxHeartbeats 1000000 in
theorem w_busyWith_s {cy : Nat → ClassId} {S : Nat → Nat → Nat} {I : kI} {L : kL} {R : kRf} {LP : List Nat} {G : kL} {d mc ms : Nat} {p0 : Int32} {Pw : va_W → Prop} {v : Int32}  (hc : Con yX7_busyWith cX7_busyWith 2 (some .int) d mc ms cy [.ref (ka S 0 0), .int p0] (wc cy S I L R LP) (fun r w2 => r = some (.int v) ∧ Pw w2) kF) : ConH [(0, 9, 12, 20), (0, 9, 15, 41)] yL_busyWith cL_busyWith 4 (some .int) (d + 1) mc ms cy [.ref (ka S 0 0), .int p0, .ref (ka S 80 0)] (wc cy S I L R LP ++ wlo cy S G) (fun r w' => r = some (.int 0) ∧ ∃ w9, Pw w9 ∧ w' = w9 ++ wlo cy S (ku G 80 0 0 v.toInt64)) := by
  refine ConH_of (by decide +kernel) (Nat.le_of_ble_eq_true rfl) ?_
  refine JG_eq (lv' := [(0, .ref (ka S 0 0)), (1, .int p0), (2, .ref (ka S 80 0))]) rfl rfl rfl ?_
  refine JG_aload_n 2 rfl dL_busyWith_0 ?_
  refine JG_iconst (v := 0) (by decide) dL_busyWith_1 ?_
  refine JG_aload_n 0 rfl dL_busyWith_2 ?_
  refine JG_iload_n 1 rfl dL_busyWith_3 ?_
  refine JG_callX7 (As := [.int p0]) (rest := [.int 0, .ref (ka S 80 0)]) [] (wlo cy S G) dL_busyWith_4 hc rfl rfl lm_L_38 kc_yX7_busyWith ki_yX7_busyWith kv_yX7_busyWith kd_yX7_busyWith ⟨(by show d + 1 ≤ d + 1; exact Nat.le_refl _), (by show 8 + (2 + 11) + (40 * d + 100) ≤ 40 * (d + 1) + 100; omega)⟩ (by show 0 + mc ≤ mc; omega) (by show 0 + ms ≤ ms; omega) (Nat.le_of_ble_eq_true rfl) (fun r9 w9 h9 => ?_) (fun _ _ h => h.elim)
  obtain ⟨rfl, hP⟩ := h9
  refine JG_eq (w' := w9 ++ wlo cy S G) (st' := [.int v, .int 0, .ref (ka S 80 0)]) rfl rfl rfl ?_
  refine JG_i2l dL_busyWith_7 ?_
  refine JG_lastO dL_busyWith_8 ?_
  refine JG_goto 18 (by decide) dL_busyWith_9 ?_
  refine JG_iconst (v := 0) (by decide) dL_busyWith_18 ?_
  exact JG_iretH dL_busyWith_19 (⟨rfl, w9, hP, rfl⟩) (by omega) (by omega)

set_option maxRecDepth 20000 in
set_option maxHeartbeats 1000000 in
theorem w_busyWith_1 {cy : Nat → ClassId} {S : Nat → Nat → Nat} {I : kI} {L : kL} {R : kRf} {LP : List Nat} {G : kL} {d mc ms : Nat} {p0 : Int32} {Pw : va_W → Prop} (hc : Con yX7_busyWith cX7_busyWith 2 (some .int) d mc ms cy [.ref (ka S 0 0), .int p0] (wc cy S I L R LP) kNo (fun E2 w2 => E2 = "java/lang/IndexOutOfBoundsException" ∧ Pw w2)) : ConH [(0, 9, 12, 20), (0, 9, 15, 41)] yL_busyWith cL_busyWith 4 (some .int) (d + 1) mc ms cy [.ref (ka S 0 0), .int p0, .ref (ka S 80 0)] (wc cy S I L R LP ++ wlo cy S G) (fun r w' => r = some (.int 1) ∧ ∃ w9, Pw w9 ∧ w' = w9 ++ wlo cy S G) := by
  refine ConH_of (by decide +kernel) (Nat.le_of_ble_eq_true rfl) ?_
  refine JG_eq (lv' := [(0, .ref (ka S 0 0)), (1, .int p0), (2, .ref (ka S 80 0))]) rfl rfl rfl ?_
  refine JG_aload_n 2 rfl dL_busyWith_0 ?_
  refine JG_iconst (v := 0) (by decide) dL_busyWith_1 ?_
  refine JG_aload_n 0 rfl dL_busyWith_2 ?_
  refine JG_iload_n 1 rfl dL_busyWith_3 ?_
  refine JG_callX7 (As := [.int p0]) (rest := [.int 0, .ref (ka S 80 0)]) [] (wlo cy S G) dL_busyWith_4 hc rfl rfl lm_L_38 kc_yX7_busyWith ki_yX7_busyWith kv_yX7_busyWith kd_yX7_busyWith ⟨(by show d + 1 ≤ d + 1; exact Nat.le_refl _), (by show 8 + (2 + 11) + (40 * d + 100) ≤ 40 * (d + 1) + 100; omega)⟩ (by show 0 + mc ≤ mc; omega) (by show 0 + ms ≤ ms; omega) (Nat.le_of_ble_eq_true rfl) (fun _ _ h => h.elim) (fun E9 w9 h9 q => ?_)
  obtain ⟨rfl, hP⟩ := h9
  refine JX_catch [] 0 (fun _ _ _ _ _ _ _ _ _ _ _ h => h.1) rfl (by decide) (by decide) lk_L_20 (by decide) (fun j z hj hz => ?_) ?_
  · omega
  refine JG_eq (w' := w9 ++ wlo cy S G) rfl rfl rfl ?_
  refine JG_astore_n (lv' := [(0, .ref (ka S 0 0)), (1, .int p0), (2, .ref (ka S 80 0)), (3, .ref q)]) (by decide) rfl dL_busyWith_12 ?_
  refine JG_iconst (v := 1) (by decide) dL_busyWith_13 ?_
  exact JG_iretH dL_busyWith_14 (⟨rfl, w9, hP, rfl⟩) (by omega) (by omega)

set_option maxRecDepth 20000 in
set_option maxHeartbeats 1000000 in
theorem w_busyWith_2 {cy : Nat → ClassId} {S : Nat → Nat → Nat} {I : kI} {L : kL} {R : kRf} {LP : List Nat} {G : kL} {d mc ms : Nat} {p0 : Int32} {Pw : va_W → Prop} (hc : Con yX7_busyWith cX7_busyWith 2 (some .int) d mc ms cy [.ref (ka S 0 0), .int p0] (wc cy S I L R LP) kNo (fun E2 w2 => E2 = "java/util/NoSuchElementException" ∧ Pw w2)) : ConH [(0, 9, 12, 20), (0, 9, 15, 41)] yL_busyWith cL_busyWith 4 (some .int) (d + 1) mc ms cy [.ref (ka S 0 0), .int p0, .ref (ka S 80 0)] (wc cy S I L R LP ++ wlo cy S G) (fun r w' => r = some (.int 2) ∧ ∃ w9, Pw w9 ∧ w' = w9 ++ wlo cy S G) := by
  refine ConH_of (by decide +kernel) (Nat.le_of_ble_eq_true rfl) ?_
  refine JG_eq (lv' := [(0, .ref (ka S 0 0)), (1, .int p0), (2, .ref (ka S 80 0))]) rfl rfl rfl ?_
  refine JG_aload_n 2 rfl dL_busyWith_0 ?_
  refine JG_iconst (v := 0) (by decide) dL_busyWith_1 ?_
  refine JG_aload_n 0 rfl dL_busyWith_2 ?_
  refine JG_iload_n 1 rfl dL_busyWith_3 ?_
  refine JG_callX7 (As := [.int p0]) (rest := [.int 0, .ref (ka S 80 0)]) [] (wlo cy S G) dL_busyWith_4 hc rfl rfl lm_L_38 kc_yX7_busyWith ki_yX7_busyWith kv_yX7_busyWith kd_yX7_busyWith ⟨(by show d + 1 ≤ d + 1; exact Nat.le_refl _), (by show 8 + (2 + 11) + (40 * d + 100) ≤ 40 * (d + 1) + 100; omega)⟩ (by show 0 + mc ≤ mc; omega) (by show 0 + ms ≤ ms; omega) (Nat.le_of_ble_eq_true rfl) (fun _ _ h => h.elim) (fun E9 w9 h9 q => ?_)
  obtain ⟨rfl, hP⟩ := h9
  refine JX_catch [] 1 (fun _ _ _ _ _ _ _ _ _ _ _ h => h.1) rfl (by decide) (by decide) lk_L_41 (by decide) (fun j z hj hz => ?_) ?_
  · have hj2 : j = 0 := by omega
    subst hj2
    cases hz
    exact ⟨by decide, _, lk_L_20, by decide⟩
  refine JG_eq (w' := w9 ++ wlo cy S G) rfl rfl rfl ?_
  refine JG_astore_n (lv' := [(0, .ref (ka S 0 0)), (1, .int p0), (2, .ref (ka S 80 0)), (3, .ref q)]) (by decide) rfl dL_busyWith_15 ?_
  refine JG_iconst (v := 2) (by decide) dL_busyWith_16 ?_
  exact JG_iretH dL_busyWith_17 (⟨rfl, w9, hP, rfl⟩) (by omega) (by omega)

set_option maxRecDepth 20000 in
set_option maxHeartbeats 1000000 in
theorem w_relays_s {cy : Nat → ClassId} {S : Nat → Nat → Nat} {I : kI} {L : kL} {R : kRf} {LP : List Nat} {G : kL} {d mc ms : Nat} {p0 p1 : Int32} {Pw : va_W → Prop} {v : Int32}  (hc : Con yX7_relays cX7_relays 3 (some .int) d mc ms cy [.ref (ka S 0 0), .int p0, .int p1] (wc cy S I L R LP) (fun r w2 => r = some (.int v) ∧ Pw w2) kF) : ConH [(0, 10, 13, 20), (0, 10, 17, 13), (0, 10, 21, 41)] yL_relays cL_relays 5 (some .int) (d + 1) mc ms cy [.ref (ka S 0 0), .int p0, .int p1, .ref (ka S 80 0)] (wc cy S I L R LP ++ wlo cy S G) (fun r w' => r = some (.int 0) ∧ ∃ w9, Pw w9 ∧ w' = w9 ++ wlo cy S (ku G 80 0 0 v.toInt64)) := by
  refine ConH_of (by decide +kernel) (Nat.le_of_ble_eq_true rfl) ?_
  refine JG_eq (lv' := [(0, .ref (ka S 0 0)), (1, .int p0), (2, .int p1), (3, .ref (ka S 80 0))]) rfl rfl rfl ?_
  refine JG_aload_n 3 rfl dL_relays_0 ?_
  refine JG_iconst (v := 0) (by decide) dL_relays_1 ?_
  refine JG_aload_n 0 rfl dL_relays_2 ?_
  refine JG_iload_n 1 rfl dL_relays_3 ?_
  refine JG_iload_n 2 rfl dL_relays_4 ?_
  refine JG_callX7 (As := [.int p0, .int p1]) (rest := [.int 0, .ref (ka S 80 0)]) [] (wlo cy S G) dL_relays_5 hc rfl rfl lm_L_43 kc_yX7_relays ki_yX7_relays kv_yX7_relays kd_yX7_relays ⟨(by show d + 1 ≤ d + 1; exact Nat.le_refl _), (by show 8 + (3 + 11) + (40 * d + 100) ≤ 40 * (d + 1) + 100; omega)⟩ (by show 0 + mc ≤ mc; omega) (by show 0 + ms ≤ ms; omega) (Nat.le_of_ble_eq_true rfl) (fun r9 w9 h9 => ?_) (fun _ _ h => h.elim)
  obtain ⟨rfl, hP⟩ := h9
  refine JG_eq (w' := w9 ++ wlo cy S G) (st' := [.int v, .int 0, .ref (ka S 80 0)]) rfl rfl rfl ?_
  refine JG_i2l dL_relays_8 ?_
  refine JG_lastO dL_relays_9 ?_
  refine JG_goto 25 (by decide) dL_relays_10 ?_
  refine JG_iconst (v := 0) (by decide) dL_relays_25 ?_
  exact JG_iretH dL_relays_26 (⟨rfl, w9, hP, rfl⟩) (by omega) (by omega)

set_option maxRecDepth 20000 in
set_option maxHeartbeats 1000000 in
theorem w_relays_1 {cy : Nat → ClassId} {S : Nat → Nat → Nat} {I : kI} {L : kL} {R : kRf} {LP : List Nat} {G : kL} {d mc ms : Nat} {p0 p1 : Int32} {Pw : va_W → Prop} (hc : Con yX7_relays cX7_relays 3 (some .int) d mc ms cy [.ref (ka S 0 0), .int p0, .int p1] (wc cy S I L R LP) kNo (fun E2 w2 => E2 = "java/lang/IndexOutOfBoundsException" ∧ Pw w2)) : ConH [(0, 10, 13, 20), (0, 10, 17, 13), (0, 10, 21, 41)] yL_relays cL_relays 5 (some .int) (d + 1) mc ms cy [.ref (ka S 0 0), .int p0, .int p1, .ref (ka S 80 0)] (wc cy S I L R LP ++ wlo cy S G) (fun r w' => r = some (.int 1) ∧ ∃ w9, Pw w9 ∧ w' = w9 ++ wlo cy S G) := by
  refine ConH_of (by decide +kernel) (Nat.le_of_ble_eq_true rfl) ?_
  refine JG_eq (lv' := [(0, .ref (ka S 0 0)), (1, .int p0), (2, .int p1), (3, .ref (ka S 80 0))]) rfl rfl rfl ?_
  refine JG_aload_n 3 rfl dL_relays_0 ?_
  refine JG_iconst (v := 0) (by decide) dL_relays_1 ?_
  refine JG_aload_n 0 rfl dL_relays_2 ?_
  refine JG_iload_n 1 rfl dL_relays_3 ?_
  refine JG_iload_n 2 rfl dL_relays_4 ?_
  refine JG_callX7 (As := [.int p0, .int p1]) (rest := [.int 0, .ref (ka S 80 0)]) [] (wlo cy S G) dL_relays_5 hc rfl rfl lm_L_43 kc_yX7_relays ki_yX7_relays kv_yX7_relays kd_yX7_relays ⟨(by show d + 1 ≤ d + 1; exact Nat.le_refl _), (by show 8 + (3 + 11) + (40 * d + 100) ≤ 40 * (d + 1) + 100; omega)⟩ (by show 0 + mc ≤ mc; omega) (by show 0 + ms ≤ ms; omega) (Nat.le_of_ble_eq_true rfl) (fun _ _ h => h.elim) (fun E9 w9 h9 q => ?_)
  obtain ⟨rfl, hP⟩ := h9
  refine JX_catch [] 0 (fun _ _ _ _ _ _ _ _ _ _ _ h => h.1) rfl (by decide) (by decide) lk_L_20 (by decide) (fun j z hj hz => ?_) ?_
  · omega
  refine JG_eq (w' := w9 ++ wlo cy S G) rfl rfl rfl ?_
  refine JG_astore (lv' := [(0, .ref (ka S 0 0)), (1, .int p0), (2, .int p1), (3, .ref (ka S 80 0)), (4, .ref q)]) (by decide) rfl dL_relays_13 ?_
  refine JG_iconst (v := 1) (by decide) dL_relays_15 ?_
  exact JG_iretH dL_relays_16 (⟨rfl, w9, hP, rfl⟩) (by omega) (by omega)

set_option maxRecDepth 20000 in
set_option maxHeartbeats 1000000 in
theorem w_relays_2 {cy : Nat → ClassId} {S : Nat → Nat → Nat} {I : kI} {L : kL} {R : kRf} {LP : List Nat} {G : kL} {d mc ms : Nat} {p0 p1 : Int32} {Pw : va_W → Prop} (hc : Con yX7_relays cX7_relays 3 (some .int) d mc ms cy [.ref (ka S 0 0), .int p0, .int p1] (wc cy S I L R LP) kNo (fun E2 w2 => E2 = "java/lang/IllegalArgumentException" ∧ Pw w2)) : ConH [(0, 10, 13, 20), (0, 10, 17, 13), (0, 10, 21, 41)] yL_relays cL_relays 5 (some .int) (d + 1) mc ms cy [.ref (ka S 0 0), .int p0, .int p1, .ref (ka S 80 0)] (wc cy S I L R LP ++ wlo cy S G) (fun r w' => r = some (.int 2) ∧ ∃ w9, Pw w9 ∧ w' = w9 ++ wlo cy S G) := by
  refine ConH_of (by decide +kernel) (Nat.le_of_ble_eq_true rfl) ?_
  refine JG_eq (lv' := [(0, .ref (ka S 0 0)), (1, .int p0), (2, .int p1), (3, .ref (ka S 80 0))]) rfl rfl rfl ?_
  refine JG_aload_n 3 rfl dL_relays_0 ?_
  refine JG_iconst (v := 0) (by decide) dL_relays_1 ?_
  refine JG_aload_n 0 rfl dL_relays_2 ?_
  refine JG_iload_n 1 rfl dL_relays_3 ?_
  refine JG_iload_n 2 rfl dL_relays_4 ?_
  refine JG_callX7 (As := [.int p0, .int p1]) (rest := [.int 0, .ref (ka S 80 0)]) [] (wlo cy S G) dL_relays_5 hc rfl rfl lm_L_43 kc_yX7_relays ki_yX7_relays kv_yX7_relays kd_yX7_relays ⟨(by show d + 1 ≤ d + 1; exact Nat.le_refl _), (by show 8 + (3 + 11) + (40 * d + 100) ≤ 40 * (d + 1) + 100; omega)⟩ (by show 0 + mc ≤ mc; omega) (by show 0 + ms ≤ ms; omega) (Nat.le_of_ble_eq_true rfl) (fun _ _ h => h.elim) (fun E9 w9 h9 q => ?_)
  obtain ⟨rfl, hP⟩ := h9
  refine JX_catch [] 1 (fun _ _ _ _ _ _ _ _ _ _ _ h => h.1) rfl (by decide) (by decide) lk_L_13 (by decide) (fun j z hj hz => ?_) ?_
  · have hj2 : j = 0 := by omega
    subst hj2
    cases hz
    exact ⟨by decide, _, lk_L_20, by decide⟩
  refine JG_eq (w' := w9 ++ wlo cy S G) rfl rfl rfl ?_
  refine JG_astore (lv' := [(0, .ref (ka S 0 0)), (1, .int p0), (2, .int p1), (3, .ref (ka S 80 0)), (4, .ref q)]) (by decide) rfl dL_relays_17 ?_
  refine JG_iconst (v := 2) (by decide) dL_relays_19 ?_
  exact JG_iretH dL_relays_20 (⟨rfl, w9, hP, rfl⟩) (by omega) (by omega)

set_option maxRecDepth 20000 in
set_option maxHeartbeats 1000000 in
theorem w_relays_3 {cy : Nat → ClassId} {S : Nat → Nat → Nat} {I : kI} {L : kL} {R : kRf} {LP : List Nat} {G : kL} {d mc ms : Nat} {p0 p1 : Int32} {Pw : va_W → Prop} (hc : Con yX7_relays cX7_relays 3 (some .int) d mc ms cy [.ref (ka S 0 0), .int p0, .int p1] (wc cy S I L R LP) kNo (fun E2 w2 => E2 = "java/util/NoSuchElementException" ∧ Pw w2)) : ConH [(0, 10, 13, 20), (0, 10, 17, 13), (0, 10, 21, 41)] yL_relays cL_relays 5 (some .int) (d + 1) mc ms cy [.ref (ka S 0 0), .int p0, .int p1, .ref (ka S 80 0)] (wc cy S I L R LP ++ wlo cy S G) (fun r w' => r = some (.int 3) ∧ ∃ w9, Pw w9 ∧ w' = w9 ++ wlo cy S G) := by
  refine ConH_of (by decide +kernel) (Nat.le_of_ble_eq_true rfl) ?_
  refine JG_eq (lv' := [(0, .ref (ka S 0 0)), (1, .int p0), (2, .int p1), (3, .ref (ka S 80 0))]) rfl rfl rfl ?_
  refine JG_aload_n 3 rfl dL_relays_0 ?_
  refine JG_iconst (v := 0) (by decide) dL_relays_1 ?_
  refine JG_aload_n 0 rfl dL_relays_2 ?_
  refine JG_iload_n 1 rfl dL_relays_3 ?_
  refine JG_iload_n 2 rfl dL_relays_4 ?_
  refine JG_callX7 (As := [.int p0, .int p1]) (rest := [.int 0, .ref (ka S 80 0)]) [] (wlo cy S G) dL_relays_5 hc rfl rfl lm_L_43 kc_yX7_relays ki_yX7_relays kv_yX7_relays kd_yX7_relays ⟨(by show d + 1 ≤ d + 1; exact Nat.le_refl _), (by show 8 + (3 + 11) + (40 * d + 100) ≤ 40 * (d + 1) + 100; omega)⟩ (by show 0 + mc ≤ mc; omega) (by show 0 + ms ≤ ms; omega) (Nat.le_of_ble_eq_true rfl) (fun _ _ h => h.elim) (fun E9 w9 h9 q => ?_)
  obtain ⟨rfl, hP⟩ := h9
  refine JX_catch [] 2 (fun _ _ _ _ _ _ _ _ _ _ _ h => h.1) rfl (by decide) (by decide) lk_L_41 (by decide) (fun j z hj hz => ?_) ?_
  · have hj2 : j = 0 ∨ j = 1 := by omega
    rcases hj2 with rfl | rfl
    · cases hz; exact ⟨by decide, _, lk_L_20, by decide⟩
    · cases hz; exact ⟨by decide, _, lk_L_13, by decide⟩
  refine JG_eq (w' := w9 ++ wlo cy S G) rfl rfl rfl ?_
  refine JG_astore (lv' := [(0, .ref (ka S 0 0)), (1, .int p0), (2, .int p1), (3, .ref (ka S 80 0)), (4, .ref q)]) (by decide) rfl dL_relays_21 ?_
  refine JG_iconst (v := 3) (by decide) dL_relays_23 ?_
  exact JG_iretH dL_relays_24 (⟨rfl, w9, hP, rfl⟩) (by omega) (by omega)

set_option maxRecDepth 20000 in
set_option maxHeartbeats 1000000 in
theorem w_relaysByJoining_s {cy : Nat → ClassId} {S : Nat → Nat → Nat} {I : kI} {L : kL} {R : kRf} {LP : List Nat} {G : kL} {d mc ms : Nat} {p0 p1 : Int32} {Pw : va_W → Prop} {v : Int32}  (hc : Con yX7_relaysByJoining cX7_relaysByJoining 3 (some .int) d mc ms cy [.ref (ka S 0 0), .int p0, .int p1] (wc cy S I L R LP) (fun r w2 => r = some (.int v) ∧ Pw w2) kF) : ConH [(0, 10, 13, 20), (0, 10, 17, 13), (0, 10, 21, 41)] yL_relaysByJoining cL_relaysByJoining 5 (some .int) (d + 1) mc ms cy [.ref (ka S 0 0), .int p0, .int p1, .ref (ka S 80 0)] (wc cy S I L R LP ++ wlo cy S G) (fun r w' => r = some (.int 0) ∧ ∃ w9, Pw w9 ∧ w' = w9 ++ wlo cy S (ku G 80 0 0 v.toInt64)) := by
  refine ConH_of (by decide +kernel) (Nat.le_of_ble_eq_true rfl) ?_
  refine JG_eq (lv' := [(0, .ref (ka S 0 0)), (1, .int p0), (2, .int p1), (3, .ref (ka S 80 0))]) rfl rfl rfl ?_
  refine JG_aload_n 3 rfl dL_relaysByJoining_0 ?_
  refine JG_iconst (v := 0) (by decide) dL_relaysByJoining_1 ?_
  refine JG_aload_n 0 rfl dL_relaysByJoining_2 ?_
  refine JG_iload_n 1 rfl dL_relaysByJoining_3 ?_
  refine JG_iload_n 2 rfl dL_relaysByJoining_4 ?_
  refine JG_callX7 (As := [.int p0, .int p1]) (rest := [.int 0, .ref (ka S 80 0)]) [] (wlo cy S G) dL_relaysByJoining_5 hc rfl rfl lm_L_46 kc_yX7_relaysByJoining ki_yX7_relaysByJoining kv_yX7_relaysByJoining kd_yX7_relaysByJoining ⟨(by show d + 1 ≤ d + 1; exact Nat.le_refl _), (by show 8 + (3 + 11) + (40 * d + 100) ≤ 40 * (d + 1) + 100; omega)⟩ (by show 0 + mc ≤ mc; omega) (by show 0 + ms ≤ ms; omega) (Nat.le_of_ble_eq_true rfl) (fun r9 w9 h9 => ?_) (fun _ _ h => h.elim)
  obtain ⟨rfl, hP⟩ := h9
  refine JG_eq (w' := w9 ++ wlo cy S G) (st' := [.int v, .int 0, .ref (ka S 80 0)]) rfl rfl rfl ?_
  refine JG_i2l dL_relaysByJoining_8 ?_
  refine JG_lastO dL_relaysByJoining_9 ?_
  refine JG_goto 25 (by decide) dL_relaysByJoining_10 ?_
  refine JG_iconst (v := 0) (by decide) dL_relaysByJoining_25 ?_
  exact JG_iretH dL_relaysByJoining_26 (⟨rfl, w9, hP, rfl⟩) (by omega) (by omega)

set_option maxRecDepth 20000 in
set_option maxHeartbeats 1000000 in
theorem w_relaysByJoining_1 {cy : Nat → ClassId} {S : Nat → Nat → Nat} {I : kI} {L : kL} {R : kRf} {LP : List Nat} {G : kL} {d mc ms : Nat} {p0 p1 : Int32} {Pw : va_W → Prop} (hc : Con yX7_relaysByJoining cX7_relaysByJoining 3 (some .int) d mc ms cy [.ref (ka S 0 0), .int p0, .int p1] (wc cy S I L R LP) kNo (fun E2 w2 => E2 = "java/lang/IndexOutOfBoundsException" ∧ Pw w2)) : ConH [(0, 10, 13, 20), (0, 10, 17, 13), (0, 10, 21, 41)] yL_relaysByJoining cL_relaysByJoining 5 (some .int) (d + 1) mc ms cy [.ref (ka S 0 0), .int p0, .int p1, .ref (ka S 80 0)] (wc cy S I L R LP ++ wlo cy S G) (fun r w' => r = some (.int 1) ∧ ∃ w9, Pw w9 ∧ w' = w9 ++ wlo cy S G) := by
  refine ConH_of (by decide +kernel) (Nat.le_of_ble_eq_true rfl) ?_
  refine JG_eq (lv' := [(0, .ref (ka S 0 0)), (1, .int p0), (2, .int p1), (3, .ref (ka S 80 0))]) rfl rfl rfl ?_
  refine JG_aload_n 3 rfl dL_relaysByJoining_0 ?_
  refine JG_iconst (v := 0) (by decide) dL_relaysByJoining_1 ?_
  refine JG_aload_n 0 rfl dL_relaysByJoining_2 ?_
  refine JG_iload_n 1 rfl dL_relaysByJoining_3 ?_
  refine JG_iload_n 2 rfl dL_relaysByJoining_4 ?_
  refine JG_callX7 (As := [.int p0, .int p1]) (rest := [.int 0, .ref (ka S 80 0)]) [] (wlo cy S G) dL_relaysByJoining_5 hc rfl rfl lm_L_46 kc_yX7_relaysByJoining ki_yX7_relaysByJoining kv_yX7_relaysByJoining kd_yX7_relaysByJoining ⟨(by show d + 1 ≤ d + 1; exact Nat.le_refl _), (by show 8 + (3 + 11) + (40 * d + 100) ≤ 40 * (d + 1) + 100; omega)⟩ (by show 0 + mc ≤ mc; omega) (by show 0 + ms ≤ ms; omega) (Nat.le_of_ble_eq_true rfl) (fun _ _ h => h.elim) (fun E9 w9 h9 q => ?_)
  obtain ⟨rfl, hP⟩ := h9
  refine JX_catch [] 0 (fun _ _ _ _ _ _ _ _ _ _ _ h => h.1) rfl (by decide) (by decide) lk_L_20 (by decide) (fun j z hj hz => ?_) ?_
  · omega
  refine JG_eq (w' := w9 ++ wlo cy S G) rfl rfl rfl ?_
  refine JG_astore (lv' := [(0, .ref (ka S 0 0)), (1, .int p0), (2, .int p1), (3, .ref (ka S 80 0)), (4, .ref q)]) (by decide) rfl dL_relaysByJoining_13 ?_
  refine JG_iconst (v := 1) (by decide) dL_relaysByJoining_15 ?_
  exact JG_iretH dL_relaysByJoining_16 (⟨rfl, w9, hP, rfl⟩) (by omega) (by omega)

set_option maxRecDepth 20000 in
set_option maxHeartbeats 1000000 in
theorem w_relaysByJoining_2 {cy : Nat → ClassId} {S : Nat → Nat → Nat} {I : kI} {L : kL} {R : kRf} {LP : List Nat} {G : kL} {d mc ms : Nat} {p0 p1 : Int32} {Pw : va_W → Prop} (hc : Con yX7_relaysByJoining cX7_relaysByJoining 3 (some .int) d mc ms cy [.ref (ka S 0 0), .int p0, .int p1] (wc cy S I L R LP) kNo (fun E2 w2 => E2 = "java/lang/IllegalArgumentException" ∧ Pw w2)) : ConH [(0, 10, 13, 20), (0, 10, 17, 13), (0, 10, 21, 41)] yL_relaysByJoining cL_relaysByJoining 5 (some .int) (d + 1) mc ms cy [.ref (ka S 0 0), .int p0, .int p1, .ref (ka S 80 0)] (wc cy S I L R LP ++ wlo cy S G) (fun r w' => r = some (.int 2) ∧ ∃ w9, Pw w9 ∧ w' = w9 ++ wlo cy S G) := by
  refine ConH_of (by decide +kernel) (Nat.le_of_ble_eq_true rfl) ?_
  refine JG_eq (lv' := [(0, .ref (ka S 0 0)), (1, .int p0), (2, .int p1), (3, .ref (ka S 80 0))]) rfl rfl rfl ?_
  refine JG_aload_n 3 rfl dL_relaysByJoining_0 ?_
  refine JG_iconst (v := 0) (by decide) dL_relaysByJoining_1 ?_
  refine JG_aload_n 0 rfl dL_relaysByJoining_2 ?_
  refine JG_iload_n 1 rfl dL_relaysByJoining_3 ?_
  refine JG_iload_n 2 rfl dL_relaysByJoining_4 ?_
  refine JG_callX7 (As := [.int p0, .int p1]) (rest := [.int 0, .ref (ka S 80 0)]) [] (wlo cy S G) dL_relaysByJoining_5 hc rfl rfl lm_L_46 kc_yX7_relaysByJoining ki_yX7_relaysByJoining kv_yX7_relaysByJoining kd_yX7_relaysByJoining ⟨(by show d + 1 ≤ d + 1; exact Nat.le_refl _), (by show 8 + (3 + 11) + (40 * d + 100) ≤ 40 * (d + 1) + 100; omega)⟩ (by show 0 + mc ≤ mc; omega) (by show 0 + ms ≤ ms; omega) (Nat.le_of_ble_eq_true rfl) (fun _ _ h => h.elim) (fun E9 w9 h9 q => ?_)
  obtain ⟨rfl, hP⟩ := h9
  refine JX_catch [] 1 (fun _ _ _ _ _ _ _ _ _ _ _ h => h.1) rfl (by decide) (by decide) lk_L_13 (by decide) (fun j z hj hz => ?_) ?_
  · have hj2 : j = 0 := by omega
    subst hj2
    cases hz
    exact ⟨by decide, _, lk_L_20, by decide⟩
  refine JG_eq (w' := w9 ++ wlo cy S G) rfl rfl rfl ?_
  refine JG_astore (lv' := [(0, .ref (ka S 0 0)), (1, .int p0), (2, .int p1), (3, .ref (ka S 80 0)), (4, .ref q)]) (by decide) rfl dL_relaysByJoining_17 ?_
  refine JG_iconst (v := 2) (by decide) dL_relaysByJoining_19 ?_
  exact JG_iretH dL_relaysByJoining_20 (⟨rfl, w9, hP, rfl⟩) (by omega) (by omega)

set_option maxRecDepth 20000 in
set_option maxHeartbeats 1000000 in
theorem w_relaysByJoining_3 {cy : Nat → ClassId} {S : Nat → Nat → Nat} {I : kI} {L : kL} {R : kRf} {LP : List Nat} {G : kL} {d mc ms : Nat} {p0 p1 : Int32} {Pw : va_W → Prop} (hc : Con yX7_relaysByJoining cX7_relaysByJoining 3 (some .int) d mc ms cy [.ref (ka S 0 0), .int p0, .int p1] (wc cy S I L R LP) kNo (fun E2 w2 => E2 = "java/util/NoSuchElementException" ∧ Pw w2)) : ConH [(0, 10, 13, 20), (0, 10, 17, 13), (0, 10, 21, 41)] yL_relaysByJoining cL_relaysByJoining 5 (some .int) (d + 1) mc ms cy [.ref (ka S 0 0), .int p0, .int p1, .ref (ka S 80 0)] (wc cy S I L R LP ++ wlo cy S G) (fun r w' => r = some (.int 3) ∧ ∃ w9, Pw w9 ∧ w' = w9 ++ wlo cy S G) := by
  refine ConH_of (by decide +kernel) (Nat.le_of_ble_eq_true rfl) ?_
  refine JG_eq (lv' := [(0, .ref (ka S 0 0)), (1, .int p0), (2, .int p1), (3, .ref (ka S 80 0))]) rfl rfl rfl ?_
  refine JG_aload_n 3 rfl dL_relaysByJoining_0 ?_
  refine JG_iconst (v := 0) (by decide) dL_relaysByJoining_1 ?_
  refine JG_aload_n 0 rfl dL_relaysByJoining_2 ?_
  refine JG_iload_n 1 rfl dL_relaysByJoining_3 ?_
  refine JG_iload_n 2 rfl dL_relaysByJoining_4 ?_
  refine JG_callX7 (As := [.int p0, .int p1]) (rest := [.int 0, .ref (ka S 80 0)]) [] (wlo cy S G) dL_relaysByJoining_5 hc rfl rfl lm_L_46 kc_yX7_relaysByJoining ki_yX7_relaysByJoining kv_yX7_relaysByJoining kd_yX7_relaysByJoining ⟨(by show d + 1 ≤ d + 1; exact Nat.le_refl _), (by show 8 + (3 + 11) + (40 * d + 100) ≤ 40 * (d + 1) + 100; omega)⟩ (by show 0 + mc ≤ mc; omega) (by show 0 + ms ≤ ms; omega) (Nat.le_of_ble_eq_true rfl) (fun _ _ h => h.elim) (fun E9 w9 h9 q => ?_)
  obtain ⟨rfl, hP⟩ := h9
  refine JX_catch [] 2 (fun _ _ _ _ _ _ _ _ _ _ _ h => h.1) rfl (by decide) (by decide) lk_L_41 (by decide) (fun j z hj hz => ?_) ?_
  · have hj2 : j = 0 ∨ j = 1 := by omega
    rcases hj2 with rfl | rfl
    · cases hz; exact ⟨by decide, _, lk_L_20, by decide⟩
    · cases hz; exact ⟨by decide, _, lk_L_13, by decide⟩
  refine JG_eq (w' := w9 ++ wlo cy S G) rfl rfl rfl ?_
  refine JG_astore (lv' := [(0, .ref (ka S 0 0)), (1, .int p0), (2, .int p1), (3, .ref (ka S 80 0)), (4, .ref q)]) (by decide) rfl dL_relaysByJoining_21 ?_
  refine JG_iconst (v := 3) (by decide) dL_relaysByJoining_23 ?_
  exact JG_iretH dL_relaysByJoining_24 (⟨rfl, w9, hP, rfl⟩) (by omega) (by omega)

set_option maxRecDepth 20000 in
set_option maxHeartbeats 1000000 in
theorem w_onWay_s {cy : Nat → ClassId} {S : Nat → Nat → Nat} {I : kI} {L : kL} {R : kRf} {LP : List Nat} {G : kL} {d mc ms : Nat} {p0 p1 p2 : Int32} {Pw : va_W → Prop} {v : Int32}  (hc : Con yX7_onWay cX7_onWay 5 (some .int) d mc ms cy [.ref (ka S 0 0), .int p0, .int p1, .int p2] (wc cy S I L R LP) (fun r w2 => r = some (.int v) ∧ Pw w2) kF) : ConH [(0, 12, 15, 20), (0, 12, 19, 13), (0, 12, 23, 41)] yL_onWay cL_onWay 6 (some .int) (d + 1) mc ms cy [.ref (ka S 0 0), .int p0, .int p1, .int p2, .ref (ka S 80 0)] (wc cy S I L R LP ++ wlo cy S G) (fun r w' => r = some (.int 0) ∧ ∃ w9, Pw w9 ∧ w' = w9 ++ wlo cy S (ku G 80 0 0 v.toInt64)) := by
  refine ConH_of (by decide +kernel) (Nat.le_of_ble_eq_true rfl) ?_
  refine JG_eq (lv' := [(0, .ref (ka S 0 0)), (1, .int p0), (2, .int p1), (3, .int p2), (4, .ref (ka S 80 0))]) rfl rfl rfl ?_
  refine JG_aload 4 rfl dL_onWay_0 ?_
  refine JG_iconst (v := 0) (by decide) dL_onWay_2 ?_
  refine JG_aload_n 0 rfl dL_onWay_3 ?_
  refine JG_iload_n 1 rfl dL_onWay_4 ?_
  refine JG_iload_n 2 rfl dL_onWay_5 ?_
  refine JG_iload_n 3 rfl dL_onWay_6 ?_
  refine JG_callX7 (As := [.int p0, .int p1, .int p2]) (rest := [.int 0, .ref (ka S 80 0)]) [] (wlo cy S G) dL_onWay_7 hc rfl rfl lm_L_49 kc_yX7_onWay ki_yX7_onWay kv_yX7_onWay kd_yX7_onWay ⟨(by show d + 1 ≤ d + 1; exact Nat.le_refl _), (by show 8 + (5 + 11) + (40 * d + 100) ≤ 40 * (d + 1) + 100; omega)⟩ (by show 0 + mc ≤ mc; omega) (by show 0 + ms ≤ ms; omega) (Nat.le_of_ble_eq_true rfl) (fun r9 w9 h9 => ?_) (fun _ _ h => h.elim)
  obtain ⟨rfl, hP⟩ := h9
  refine JG_eq (w' := w9 ++ wlo cy S G) (st' := [.int v, .int 0, .ref (ka S 80 0)]) rfl rfl rfl ?_
  refine JG_i2l dL_onWay_10 ?_
  refine JG_lastO dL_onWay_11 ?_
  refine JG_goto 27 (by decide) dL_onWay_12 ?_
  refine JG_iconst (v := 0) (by decide) dL_onWay_27 ?_
  exact JG_iretH dL_onWay_28 (⟨rfl, w9, hP, rfl⟩) (by omega) (by omega)

set_option maxRecDepth 20000 in
set_option maxHeartbeats 1000000 in
theorem w_onWay_1 {cy : Nat → ClassId} {S : Nat → Nat → Nat} {I : kI} {L : kL} {R : kRf} {LP : List Nat} {G : kL} {d mc ms : Nat} {p0 p1 p2 : Int32} {Pw : va_W → Prop} (hc : Con yX7_onWay cX7_onWay 5 (some .int) d mc ms cy [.ref (ka S 0 0), .int p0, .int p1, .int p2] (wc cy S I L R LP) kNo (fun E2 w2 => E2 = "java/lang/IndexOutOfBoundsException" ∧ Pw w2)) : ConH [(0, 12, 15, 20), (0, 12, 19, 13), (0, 12, 23, 41)] yL_onWay cL_onWay 6 (some .int) (d + 1) mc ms cy [.ref (ka S 0 0), .int p0, .int p1, .int p2, .ref (ka S 80 0)] (wc cy S I L R LP ++ wlo cy S G) (fun r w' => r = some (.int 1) ∧ ∃ w9, Pw w9 ∧ w' = w9 ++ wlo cy S G) := by
  refine ConH_of (by decide +kernel) (Nat.le_of_ble_eq_true rfl) ?_
  refine JG_eq (lv' := [(0, .ref (ka S 0 0)), (1, .int p0), (2, .int p1), (3, .int p2), (4, .ref (ka S 80 0))]) rfl rfl rfl ?_
  refine JG_aload 4 rfl dL_onWay_0 ?_
  refine JG_iconst (v := 0) (by decide) dL_onWay_2 ?_
  refine JG_aload_n 0 rfl dL_onWay_3 ?_
  refine JG_iload_n 1 rfl dL_onWay_4 ?_
  refine JG_iload_n 2 rfl dL_onWay_5 ?_
  refine JG_iload_n 3 rfl dL_onWay_6 ?_
  refine JG_callX7 (As := [.int p0, .int p1, .int p2]) (rest := [.int 0, .ref (ka S 80 0)]) [] (wlo cy S G) dL_onWay_7 hc rfl rfl lm_L_49 kc_yX7_onWay ki_yX7_onWay kv_yX7_onWay kd_yX7_onWay ⟨(by show d + 1 ≤ d + 1; exact Nat.le_refl _), (by show 8 + (5 + 11) + (40 * d + 100) ≤ 40 * (d + 1) + 100; omega)⟩ (by show 0 + mc ≤ mc; omega) (by show 0 + ms ≤ ms; omega) (Nat.le_of_ble_eq_true rfl) (fun _ _ h => h.elim) (fun E9 w9 h9 q => ?_)
  obtain ⟨rfl, hP⟩ := h9
  refine JX_catch [] 0 (fun _ _ _ _ _ _ _ _ _ _ _ h => h.1) rfl (by decide) (by decide) lk_L_20 (by decide) (fun j z hj hz => ?_) ?_
  · omega
  refine JG_eq (w' := w9 ++ wlo cy S G) rfl rfl rfl ?_
  refine JG_astore (lv' := [(0, .ref (ka S 0 0)), (1, .int p0), (2, .int p1), (3, .int p2), (4, .ref (ka S 80 0)), (5, .ref q)]) (by decide) rfl dL_onWay_15 ?_
  refine JG_iconst (v := 1) (by decide) dL_onWay_17 ?_
  exact JG_iretH dL_onWay_18 (⟨rfl, w9, hP, rfl⟩) (by omega) (by omega)

set_option maxRecDepth 20000 in
set_option maxHeartbeats 1000000 in
theorem w_onWay_2 {cy : Nat → ClassId} {S : Nat → Nat → Nat} {I : kI} {L : kL} {R : kRf} {LP : List Nat} {G : kL} {d mc ms : Nat} {p0 p1 p2 : Int32} {Pw : va_W → Prop} (hc : Con yX7_onWay cX7_onWay 5 (some .int) d mc ms cy [.ref (ka S 0 0), .int p0, .int p1, .int p2] (wc cy S I L R LP) kNo (fun E2 w2 => E2 = "java/lang/IllegalArgumentException" ∧ Pw w2)) : ConH [(0, 12, 15, 20), (0, 12, 19, 13), (0, 12, 23, 41)] yL_onWay cL_onWay 6 (some .int) (d + 1) mc ms cy [.ref (ka S 0 0), .int p0, .int p1, .int p2, .ref (ka S 80 0)] (wc cy S I L R LP ++ wlo cy S G) (fun r w' => r = some (.int 2) ∧ ∃ w9, Pw w9 ∧ w' = w9 ++ wlo cy S G) := by
  refine ConH_of (by decide +kernel) (Nat.le_of_ble_eq_true rfl) ?_
  refine JG_eq (lv' := [(0, .ref (ka S 0 0)), (1, .int p0), (2, .int p1), (3, .int p2), (4, .ref (ka S 80 0))]) rfl rfl rfl ?_
  refine JG_aload 4 rfl dL_onWay_0 ?_
  refine JG_iconst (v := 0) (by decide) dL_onWay_2 ?_
  refine JG_aload_n 0 rfl dL_onWay_3 ?_
  refine JG_iload_n 1 rfl dL_onWay_4 ?_
  refine JG_iload_n 2 rfl dL_onWay_5 ?_
  refine JG_iload_n 3 rfl dL_onWay_6 ?_
  refine JG_callX7 (As := [.int p0, .int p1, .int p2]) (rest := [.int 0, .ref (ka S 80 0)]) [] (wlo cy S G) dL_onWay_7 hc rfl rfl lm_L_49 kc_yX7_onWay ki_yX7_onWay kv_yX7_onWay kd_yX7_onWay ⟨(by show d + 1 ≤ d + 1; exact Nat.le_refl _), (by show 8 + (5 + 11) + (40 * d + 100) ≤ 40 * (d + 1) + 100; omega)⟩ (by show 0 + mc ≤ mc; omega) (by show 0 + ms ≤ ms; omega) (Nat.le_of_ble_eq_true rfl) (fun _ _ h => h.elim) (fun E9 w9 h9 q => ?_)
  obtain ⟨rfl, hP⟩ := h9
  refine JX_catch [] 1 (fun _ _ _ _ _ _ _ _ _ _ _ h => h.1) rfl (by decide) (by decide) lk_L_13 (by decide) (fun j z hj hz => ?_) ?_
  · have hj2 : j = 0 := by omega
    subst hj2
    cases hz
    exact ⟨by decide, _, lk_L_20, by decide⟩
  refine JG_eq (w' := w9 ++ wlo cy S G) rfl rfl rfl ?_
  refine JG_astore (lv' := [(0, .ref (ka S 0 0)), (1, .int p0), (2, .int p1), (3, .int p2), (4, .ref (ka S 80 0)), (5, .ref q)]) (by decide) rfl dL_onWay_19 ?_
  refine JG_iconst (v := 2) (by decide) dL_onWay_21 ?_
  exact JG_iretH dL_onWay_22 (⟨rfl, w9, hP, rfl⟩) (by omega) (by omega)

set_option maxRecDepth 20000 in
set_option maxHeartbeats 1000000 in
theorem w_onWay_3 {cy : Nat → ClassId} {S : Nat → Nat → Nat} {I : kI} {L : kL} {R : kRf} {LP : List Nat} {G : kL} {d mc ms : Nat} {p0 p1 p2 : Int32} {Pw : va_W → Prop} (hc : Con yX7_onWay cX7_onWay 5 (some .int) d mc ms cy [.ref (ka S 0 0), .int p0, .int p1, .int p2] (wc cy S I L R LP) kNo (fun E2 w2 => E2 = "java/util/NoSuchElementException" ∧ Pw w2)) : ConH [(0, 12, 15, 20), (0, 12, 19, 13), (0, 12, 23, 41)] yL_onWay cL_onWay 6 (some .int) (d + 1) mc ms cy [.ref (ka S 0 0), .int p0, .int p1, .int p2, .ref (ka S 80 0)] (wc cy S I L R LP ++ wlo cy S G) (fun r w' => r = some (.int 3) ∧ ∃ w9, Pw w9 ∧ w' = w9 ++ wlo cy S G) := by
  refine ConH_of (by decide +kernel) (Nat.le_of_ble_eq_true rfl) ?_
  refine JG_eq (lv' := [(0, .ref (ka S 0 0)), (1, .int p0), (2, .int p1), (3, .int p2), (4, .ref (ka S 80 0))]) rfl rfl rfl ?_
  refine JG_aload 4 rfl dL_onWay_0 ?_
  refine JG_iconst (v := 0) (by decide) dL_onWay_2 ?_
  refine JG_aload_n 0 rfl dL_onWay_3 ?_
  refine JG_iload_n 1 rfl dL_onWay_4 ?_
  refine JG_iload_n 2 rfl dL_onWay_5 ?_
  refine JG_iload_n 3 rfl dL_onWay_6 ?_
  refine JG_callX7 (As := [.int p0, .int p1, .int p2]) (rest := [.int 0, .ref (ka S 80 0)]) [] (wlo cy S G) dL_onWay_7 hc rfl rfl lm_L_49 kc_yX7_onWay ki_yX7_onWay kv_yX7_onWay kd_yX7_onWay ⟨(by show d + 1 ≤ d + 1; exact Nat.le_refl _), (by show 8 + (5 + 11) + (40 * d + 100) ≤ 40 * (d + 1) + 100; omega)⟩ (by show 0 + mc ≤ mc; omega) (by show 0 + ms ≤ ms; omega) (Nat.le_of_ble_eq_true rfl) (fun _ _ h => h.elim) (fun E9 w9 h9 q => ?_)
  obtain ⟨rfl, hP⟩ := h9
  refine JX_catch [] 2 (fun _ _ _ _ _ _ _ _ _ _ _ h => h.1) rfl (by decide) (by decide) lk_L_41 (by decide) (fun j z hj hz => ?_) ?_
  · have hj2 : j = 0 ∨ j = 1 := by omega
    rcases hj2 with rfl | rfl
    · cases hz; exact ⟨by decide, _, lk_L_20, by decide⟩
    · cases hz; exact ⟨by decide, _, lk_L_13, by decide⟩
  refine JG_eq (w' := w9 ++ wlo cy S G) rfl rfl rfl ?_
  refine JG_astore (lv' := [(0, .ref (ka S 0 0)), (1, .int p0), (2, .int p1), (3, .int p2), (4, .ref (ka S 80 0)), (5, .ref q)]) (by decide) rfl dL_onWay_23 ?_
  refine JG_iconst (v := 3) (by decide) dL_onWay_25 ?_
  exact JG_iretH dL_onWay_26 (⟨rfl, w9, hP, rfl⟩) (by omega) (by omega)

set_option maxRecDepth 20000 in
set_option maxHeartbeats 1000000 in
theorem w_call_s {cy : Nat → ClassId} {S : Nat → Nat → Nat} {I : kI} {L : kL} {R : kRf} {LP : List Nat} {G : kL} {d mc ms : Nat} {p0 p1 p2 p3 : Int32} {Pw : va_W → Prop} {v : Int32}  (hc : Con yX7_call cX7_call 6 (some .int) d mc ms cy [.ref (ka S 0 0), .int p0, .int p1, .int p2, .int p3] (wc cy S I L R LP) (fun r w2 => r = some (.int v) ∧ Pw w2) kF) : ConH [(0, 14, 17, 20), (0, 14, 21, 13), (0, 14, 25, 15)] yL_call cL_call 7 (some .int) (d + 1) mc ms cy [.ref (ka S 0 0), .int p0, .int p1, .int p2, .int p3, .ref (ka S 80 0)] (wc cy S I L R LP ++ wlo cy S G) (fun r w' => r = some (.int 0) ∧ ∃ w9, Pw w9 ∧ w' = w9 ++ wlo cy S (ku G 80 0 0 v.toInt64)) := by
  refine ConH_of (by decide +kernel) (Nat.le_of_ble_eq_true rfl) ?_
  refine JG_eq (lv' := [(0, .ref (ka S 0 0)), (1, .int p0), (2, .int p1), (3, .int p2), (4, .int p3), (5, .ref (ka S 80 0))]) rfl rfl rfl ?_
  refine JG_aload 5 rfl dL_call_0 ?_
  refine JG_iconst (v := 0) (by decide) dL_call_2 ?_
  refine JG_aload_n 0 rfl dL_call_3 ?_
  refine JG_iload_n 1 rfl dL_call_4 ?_
  refine JG_iload_n 2 rfl dL_call_5 ?_
  refine JG_iload_n 3 rfl dL_call_6 ?_
  refine JG_iload 4 rfl dL_call_7 ?_
  refine JG_callX7 (As := [.int p0, .int p1, .int p2, .int p3]) (rest := [.int 0, .ref (ka S 80 0)]) [] (wlo cy S G) dL_call_9 hc rfl rfl lm_L_53 kc_yX7_call ki_yX7_call kv_yX7_call kd_yX7_call ⟨(by show d + 1 ≤ d + 1; exact Nat.le_refl _), (by show 8 + (6 + 11) + (40 * d + 100) ≤ 40 * (d + 1) + 100; omega)⟩ (by show 0 + mc ≤ mc; omega) (by show 0 + ms ≤ ms; omega) (Nat.le_of_ble_eq_true rfl) (fun r9 w9 h9 => ?_) (fun _ _ h => h.elim)
  obtain ⟨rfl, hP⟩ := h9
  refine JG_eq (w' := w9 ++ wlo cy S G) (st' := [.int v, .int 0, .ref (ka S 80 0)]) rfl rfl rfl ?_
  refine JG_i2l dL_call_12 ?_
  refine JG_lastO dL_call_13 ?_
  refine JG_goto 29 (by decide) dL_call_14 ?_
  refine JG_iconst (v := 0) (by decide) dL_call_29 ?_
  exact JG_iretH dL_call_30 (⟨rfl, w9, hP, rfl⟩) (by omega) (by omega)

set_option maxRecDepth 20000 in
set_option maxHeartbeats 1000000 in
theorem w_call_1 {cy : Nat → ClassId} {S : Nat → Nat → Nat} {I : kI} {L : kL} {R : kRf} {LP : List Nat} {G : kL} {d mc ms : Nat} {p0 p1 p2 p3 : Int32} {Pw : va_W → Prop} (hc : Con yX7_call cX7_call 6 (some .int) d mc ms cy [.ref (ka S 0 0), .int p0, .int p1, .int p2, .int p3] (wc cy S I L R LP) kNo (fun E2 w2 => E2 = "java/lang/IndexOutOfBoundsException" ∧ Pw w2)) : ConH [(0, 14, 17, 20), (0, 14, 21, 13), (0, 14, 25, 15)] yL_call cL_call 7 (some .int) (d + 1) mc ms cy [.ref (ka S 0 0), .int p0, .int p1, .int p2, .int p3, .ref (ka S 80 0)] (wc cy S I L R LP ++ wlo cy S G) (fun r w' => r = some (.int 1) ∧ ∃ w9, Pw w9 ∧ w' = w9 ++ wlo cy S G) := by
  refine ConH_of (by decide +kernel) (Nat.le_of_ble_eq_true rfl) ?_
  refine JG_eq (lv' := [(0, .ref (ka S 0 0)), (1, .int p0), (2, .int p1), (3, .int p2), (4, .int p3), (5, .ref (ka S 80 0))]) rfl rfl rfl ?_
  refine JG_aload 5 rfl dL_call_0 ?_
  refine JG_iconst (v := 0) (by decide) dL_call_2 ?_
  refine JG_aload_n 0 rfl dL_call_3 ?_
  refine JG_iload_n 1 rfl dL_call_4 ?_
  refine JG_iload_n 2 rfl dL_call_5 ?_
  refine JG_iload_n 3 rfl dL_call_6 ?_
  refine JG_iload 4 rfl dL_call_7 ?_
  refine JG_callX7 (As := [.int p0, .int p1, .int p2, .int p3]) (rest := [.int 0, .ref (ka S 80 0)]) [] (wlo cy S G) dL_call_9 hc rfl rfl lm_L_53 kc_yX7_call ki_yX7_call kv_yX7_call kd_yX7_call ⟨(by show d + 1 ≤ d + 1; exact Nat.le_refl _), (by show 8 + (6 + 11) + (40 * d + 100) ≤ 40 * (d + 1) + 100; omega)⟩ (by show 0 + mc ≤ mc; omega) (by show 0 + ms ≤ ms; omega) (Nat.le_of_ble_eq_true rfl) (fun _ _ h => h.elim) (fun E9 w9 h9 q => ?_)
  obtain ⟨rfl, hP⟩ := h9
  refine JX_catch [] 0 (fun _ _ _ _ _ _ _ _ _ _ _ h => h.1) rfl (by decide) (by decide) lk_L_20 (by decide) (fun j z hj hz => ?_) ?_
  · omega
  refine JG_eq (w' := w9 ++ wlo cy S G) rfl rfl rfl ?_
  refine JG_astore (lv' := [(0, .ref (ka S 0 0)), (1, .int p0), (2, .int p1), (3, .int p2), (4, .int p3), (5, .ref (ka S 80 0)), (6, .ref q)]) (by decide) rfl dL_call_17 ?_
  refine JG_iconst (v := 1) (by decide) dL_call_19 ?_
  exact JG_iretH dL_call_20 (⟨rfl, w9, hP, rfl⟩) (by omega) (by omega)

set_option maxRecDepth 20000 in
set_option maxHeartbeats 1000000 in
theorem w_call_2 {cy : Nat → ClassId} {S : Nat → Nat → Nat} {I : kI} {L : kL} {R : kRf} {LP : List Nat} {G : kL} {d mc ms : Nat} {p0 p1 p2 p3 : Int32} {Pw : va_W → Prop} (hc : Con yX7_call cX7_call 6 (some .int) d mc ms cy [.ref (ka S 0 0), .int p0, .int p1, .int p2, .int p3] (wc cy S I L R LP) kNo (fun E2 w2 => E2 = "java/lang/IllegalArgumentException" ∧ Pw w2)) : ConH [(0, 14, 17, 20), (0, 14, 21, 13), (0, 14, 25, 15)] yL_call cL_call 7 (some .int) (d + 1) mc ms cy [.ref (ka S 0 0), .int p0, .int p1, .int p2, .int p3, .ref (ka S 80 0)] (wc cy S I L R LP ++ wlo cy S G) (fun r w' => r = some (.int 2) ∧ ∃ w9, Pw w9 ∧ w' = w9 ++ wlo cy S G) := by
  refine ConH_of (by decide +kernel) (Nat.le_of_ble_eq_true rfl) ?_
  refine JG_eq (lv' := [(0, .ref (ka S 0 0)), (1, .int p0), (2, .int p1), (3, .int p2), (4, .int p3), (5, .ref (ka S 80 0))]) rfl rfl rfl ?_
  refine JG_aload 5 rfl dL_call_0 ?_
  refine JG_iconst (v := 0) (by decide) dL_call_2 ?_
  refine JG_aload_n 0 rfl dL_call_3 ?_
  refine JG_iload_n 1 rfl dL_call_4 ?_
  refine JG_iload_n 2 rfl dL_call_5 ?_
  refine JG_iload_n 3 rfl dL_call_6 ?_
  refine JG_iload 4 rfl dL_call_7 ?_
  refine JG_callX7 (As := [.int p0, .int p1, .int p2, .int p3]) (rest := [.int 0, .ref (ka S 80 0)]) [] (wlo cy S G) dL_call_9 hc rfl rfl lm_L_53 kc_yX7_call ki_yX7_call kv_yX7_call kd_yX7_call ⟨(by show d + 1 ≤ d + 1; exact Nat.le_refl _), (by show 8 + (6 + 11) + (40 * d + 100) ≤ 40 * (d + 1) + 100; omega)⟩ (by show 0 + mc ≤ mc; omega) (by show 0 + ms ≤ ms; omega) (Nat.le_of_ble_eq_true rfl) (fun _ _ h => h.elim) (fun E9 w9 h9 q => ?_)
  obtain ⟨rfl, hP⟩ := h9
  refine JX_catch [] 1 (fun _ _ _ _ _ _ _ _ _ _ _ h => h.1) rfl (by decide) (by decide) lk_L_13 (by decide) (fun j z hj hz => ?_) ?_
  · have hj2 : j = 0 := by omega
    subst hj2
    cases hz
    exact ⟨by decide, _, lk_L_20, by decide⟩
  refine JG_eq (w' := w9 ++ wlo cy S G) rfl rfl rfl ?_
  refine JG_astore (lv' := [(0, .ref (ka S 0 0)), (1, .int p0), (2, .int p1), (3, .int p2), (4, .int p3), (5, .ref (ka S 80 0)), (6, .ref q)]) (by decide) rfl dL_call_21 ?_
  refine JG_iconst (v := 2) (by decide) dL_call_23 ?_
  exact JG_iretH dL_call_24 (⟨rfl, w9, hP, rfl⟩) (by omega) (by omega)

set_option maxRecDepth 20000 in
set_option maxHeartbeats 1000000 in
theorem w_call_3 {cy : Nat → ClassId} {S : Nat → Nat → Nat} {I : kI} {L : kL} {R : kRf} {LP : List Nat} {G : kL} {d mc ms : Nat} {p0 p1 p2 p3 : Int32} {Pw : va_W → Prop} (hc : Con yX7_call cX7_call 6 (some .int) d mc ms cy [.ref (ka S 0 0), .int p0, .int p1, .int p2, .int p3] (wc cy S I L R LP) kNo (fun E2 w2 => E2 = "java/lang/IllegalStateException" ∧ Pw w2)) : ConH [(0, 14, 17, 20), (0, 14, 21, 13), (0, 14, 25, 15)] yL_call cL_call 7 (some .int) (d + 1) mc ms cy [.ref (ka S 0 0), .int p0, .int p1, .int p2, .int p3, .ref (ka S 80 0)] (wc cy S I L R LP ++ wlo cy S G) (fun r w' => r = some (.int 3) ∧ ∃ w9, Pw w9 ∧ w' = w9 ++ wlo cy S G) := by
  refine ConH_of (by decide +kernel) (Nat.le_of_ble_eq_true rfl) ?_
  refine JG_eq (lv' := [(0, .ref (ka S 0 0)), (1, .int p0), (2, .int p1), (3, .int p2), (4, .int p3), (5, .ref (ka S 80 0))]) rfl rfl rfl ?_
  refine JG_aload 5 rfl dL_call_0 ?_
  refine JG_iconst (v := 0) (by decide) dL_call_2 ?_
  refine JG_aload_n 0 rfl dL_call_3 ?_
  refine JG_iload_n 1 rfl dL_call_4 ?_
  refine JG_iload_n 2 rfl dL_call_5 ?_
  refine JG_iload_n 3 rfl dL_call_6 ?_
  refine JG_iload 4 rfl dL_call_7 ?_
  refine JG_callX7 (As := [.int p0, .int p1, .int p2, .int p3]) (rest := [.int 0, .ref (ka S 80 0)]) [] (wlo cy S G) dL_call_9 hc rfl rfl lm_L_53 kc_yX7_call ki_yX7_call kv_yX7_call kd_yX7_call ⟨(by show d + 1 ≤ d + 1; exact Nat.le_refl _), (by show 8 + (6 + 11) + (40 * d + 100) ≤ 40 * (d + 1) + 100; omega)⟩ (by show 0 + mc ≤ mc; omega) (by show 0 + ms ≤ ms; omega) (Nat.le_of_ble_eq_true rfl) (fun _ _ h => h.elim) (fun E9 w9 h9 q => ?_)
  obtain ⟨rfl, hP⟩ := h9
  refine JX_catch [] 2 (fun _ _ _ _ _ _ _ _ _ _ _ h => h.1) rfl (by decide) (by decide) lk_L_15 (by decide) (fun j z hj hz => ?_) ?_
  · have hj2 : j = 0 ∨ j = 1 := by omega
    rcases hj2 with rfl | rfl
    · cases hz; exact ⟨by decide, _, lk_L_20, by decide⟩
    · cases hz; exact ⟨by decide, _, lk_L_13, by decide⟩
  refine JG_eq (w' := w9 ++ wlo cy S G) rfl rfl rfl ?_
  refine JG_astore (lv' := [(0, .ref (ka S 0 0)), (1, .int p0), (2, .int p1), (3, .int p2), (4, .int p3), (5, .ref (ka S 80 0)), (6, .ref q)]) (by decide) rfl dL_call_25 ?_
  refine JG_iconst (v := 3) (by decide) dL_call_27 ?_
  exact JG_iretH dL_call_28 (⟨rfl, w9, hP, rfl⟩) (by omega) (by omega)

set_option maxRecDepth 20000 in
set_option maxHeartbeats 1000000 in
theorem w_cancel_s {cy : Nat → ClassId} {S : Nat → Nat → Nat} {I : kI} {L : kL} {R : kRf} {LP : List Nat} {G : kL} {d mc ms : Nat} {p0 : Int32} {Pw : va_W → Prop} {v : Int32}  (hc : Con yX7_cancel cX7_cancel 3 (some .int) d mc ms cy [.ref (ka S 0 0), .int p0] (wc cy S I L R LP) (fun r w2 => r = some (.int v) ∧ Pw w2) kF) : ConH [(0, 9, 12, 41), (0, 9, 15, 15)] yL_cancel cL_cancel 4 (some .int) (d + 1) mc ms cy [.ref (ka S 0 0), .int p0, .ref (ka S 80 0)] (wc cy S I L R LP ++ wlo cy S G) (fun r w' => r = some (.int 0) ∧ ∃ w9, Pw w9 ∧ w' = w9 ++ wlo cy S (ku G 80 0 0 v.toInt64)) := by
  refine ConH_of (by decide +kernel) (Nat.le_of_ble_eq_true rfl) ?_
  refine JG_eq (lv' := [(0, .ref (ka S 0 0)), (1, .int p0), (2, .ref (ka S 80 0))]) rfl rfl rfl ?_
  refine JG_aload_n 2 rfl dL_cancel_0 ?_
  refine JG_iconst (v := 0) (by decide) dL_cancel_1 ?_
  refine JG_aload_n 0 rfl dL_cancel_2 ?_
  refine JG_iload_n 1 rfl dL_cancel_3 ?_
  refine JG_callX7 (As := [.int p0]) (rest := [.int 0, .ref (ka S 80 0)]) [] (wlo cy S G) dL_cancel_4 hc rfl rfl lm_L_57 kc_yX7_cancel ki_yX7_cancel kv_yX7_cancel kd_yX7_cancel ⟨(by show d + 1 ≤ d + 1; exact Nat.le_refl _), (by show 8 + (3 + 11) + (40 * d + 100) ≤ 40 * (d + 1) + 100; omega)⟩ (by show 0 + mc ≤ mc; omega) (by show 0 + ms ≤ ms; omega) (Nat.le_of_ble_eq_true rfl) (fun r9 w9 h9 => ?_) (fun _ _ h => h.elim)
  obtain ⟨rfl, hP⟩ := h9
  refine JG_eq (w' := w9 ++ wlo cy S G) (st' := [.int v, .int 0, .ref (ka S 80 0)]) rfl rfl rfl ?_
  refine JG_i2l dL_cancel_7 ?_
  refine JG_lastO dL_cancel_8 ?_
  refine JG_goto 18 (by decide) dL_cancel_9 ?_
  refine JG_iconst (v := 0) (by decide) dL_cancel_18 ?_
  exact JG_iretH dL_cancel_19 (⟨rfl, w9, hP, rfl⟩) (by omega) (by omega)

set_option maxRecDepth 20000 in
set_option maxHeartbeats 1000000 in
theorem w_cancel_1 {cy : Nat → ClassId} {S : Nat → Nat → Nat} {I : kI} {L : kL} {R : kRf} {LP : List Nat} {G : kL} {d mc ms : Nat} {p0 : Int32} {Pw : va_W → Prop} (hc : Con yX7_cancel cX7_cancel 3 (some .int) d mc ms cy [.ref (ka S 0 0), .int p0] (wc cy S I L R LP) kNo (fun E2 w2 => E2 = "java/util/NoSuchElementException" ∧ Pw w2)) : ConH [(0, 9, 12, 41), (0, 9, 15, 15)] yL_cancel cL_cancel 4 (some .int) (d + 1) mc ms cy [.ref (ka S 0 0), .int p0, .ref (ka S 80 0)] (wc cy S I L R LP ++ wlo cy S G) (fun r w' => r = some (.int 1) ∧ ∃ w9, Pw w9 ∧ w' = w9 ++ wlo cy S G) := by
  refine ConH_of (by decide +kernel) (Nat.le_of_ble_eq_true rfl) ?_
  refine JG_eq (lv' := [(0, .ref (ka S 0 0)), (1, .int p0), (2, .ref (ka S 80 0))]) rfl rfl rfl ?_
  refine JG_aload_n 2 rfl dL_cancel_0 ?_
  refine JG_iconst (v := 0) (by decide) dL_cancel_1 ?_
  refine JG_aload_n 0 rfl dL_cancel_2 ?_
  refine JG_iload_n 1 rfl dL_cancel_3 ?_
  refine JG_callX7 (As := [.int p0]) (rest := [.int 0, .ref (ka S 80 0)]) [] (wlo cy S G) dL_cancel_4 hc rfl rfl lm_L_57 kc_yX7_cancel ki_yX7_cancel kv_yX7_cancel kd_yX7_cancel ⟨(by show d + 1 ≤ d + 1; exact Nat.le_refl _), (by show 8 + (3 + 11) + (40 * d + 100) ≤ 40 * (d + 1) + 100; omega)⟩ (by show 0 + mc ≤ mc; omega) (by show 0 + ms ≤ ms; omega) (Nat.le_of_ble_eq_true rfl) (fun _ _ h => h.elim) (fun E9 w9 h9 q => ?_)
  obtain ⟨rfl, hP⟩ := h9
  refine JX_catch [] 0 (fun _ _ _ _ _ _ _ _ _ _ _ h => h.1) rfl (by decide) (by decide) lk_L_41 (by decide) (fun j z hj hz => ?_) ?_
  · omega
  refine JG_eq (w' := w9 ++ wlo cy S G) rfl rfl rfl ?_
  refine JG_astore_n (lv' := [(0, .ref (ka S 0 0)), (1, .int p0), (2, .ref (ka S 80 0)), (3, .ref q)]) (by decide) rfl dL_cancel_12 ?_
  refine JG_iconst (v := 1) (by decide) dL_cancel_13 ?_
  exact JG_iretH dL_cancel_14 (⟨rfl, w9, hP, rfl⟩) (by omega) (by omega)

set_option maxRecDepth 20000 in
set_option maxHeartbeats 1000000 in
theorem w_cancel_2 {cy : Nat → ClassId} {S : Nat → Nat → Nat} {I : kI} {L : kL} {R : kRf} {LP : List Nat} {G : kL} {d mc ms : Nat} {p0 : Int32} {Pw : va_W → Prop} (hc : Con yX7_cancel cX7_cancel 3 (some .int) d mc ms cy [.ref (ka S 0 0), .int p0] (wc cy S I L R LP) kNo (fun E2 w2 => E2 = "java/lang/IllegalStateException" ∧ Pw w2)) : ConH [(0, 9, 12, 41), (0, 9, 15, 15)] yL_cancel cL_cancel 4 (some .int) (d + 1) mc ms cy [.ref (ka S 0 0), .int p0, .ref (ka S 80 0)] (wc cy S I L R LP ++ wlo cy S G) (fun r w' => r = some (.int 2) ∧ ∃ w9, Pw w9 ∧ w' = w9 ++ wlo cy S G) := by
  refine ConH_of (by decide +kernel) (Nat.le_of_ble_eq_true rfl) ?_
  refine JG_eq (lv' := [(0, .ref (ka S 0 0)), (1, .int p0), (2, .ref (ka S 80 0))]) rfl rfl rfl ?_
  refine JG_aload_n 2 rfl dL_cancel_0 ?_
  refine JG_iconst (v := 0) (by decide) dL_cancel_1 ?_
  refine JG_aload_n 0 rfl dL_cancel_2 ?_
  refine JG_iload_n 1 rfl dL_cancel_3 ?_
  refine JG_callX7 (As := [.int p0]) (rest := [.int 0, .ref (ka S 80 0)]) [] (wlo cy S G) dL_cancel_4 hc rfl rfl lm_L_57 kc_yX7_cancel ki_yX7_cancel kv_yX7_cancel kd_yX7_cancel ⟨(by show d + 1 ≤ d + 1; exact Nat.le_refl _), (by show 8 + (3 + 11) + (40 * d + 100) ≤ 40 * (d + 1) + 100; omega)⟩ (by show 0 + mc ≤ mc; omega) (by show 0 + ms ≤ ms; omega) (Nat.le_of_ble_eq_true rfl) (fun _ _ h => h.elim) (fun E9 w9 h9 q => ?_)
  obtain ⟨rfl, hP⟩ := h9
  refine JX_catch [] 1 (fun _ _ _ _ _ _ _ _ _ _ _ h => h.1) rfl (by decide) (by decide) lk_L_15 (by decide) (fun j z hj hz => ?_) ?_
  · have hj2 : j = 0 := by omega
    subst hj2
    cases hz
    exact ⟨by decide, _, lk_L_41, by decide⟩
  refine JG_eq (w' := w9 ++ wlo cy S G) rfl rfl rfl ?_
  refine JG_astore_n (lv' := [(0, .ref (ka S 0 0)), (1, .int p0), (2, .ref (ka S 80 0)), (3, .ref q)]) (by decide) rfl dL_cancel_15 ?_
  refine JG_iconst (v := 2) (by decide) dL_cancel_16 ?_
  exact JG_iretH dL_cancel_17 (⟨rfl, w9, hP, rfl⟩) (by omega) (by omega)

set_option maxRecDepth 20000 in
set_option maxHeartbeats 1000000 in
theorem w_raise_s {cy : Nat → ClassId} {S : Nat → Nat → Nat} {I : kI} {L : kL} {R : kRf} {LP : List Nat} {G : kL} {d mc ms : Nat} {p0 p1 : Int32} {Pw : va_W → Prop} {v : Int32}  (hc : Con yX7_raise cX7_raise 6 (some .char) d mc ms cy [.ref (ka S 0 0), .int p0, .int p1] (wc cy S I L R LP) (fun r w2 => r = some (.int v) ∧ Pw w2) kF) : ConH [(0, 10, 13, 41), (0, 10, 17, 13), (0, 10, 21, 15)] yL_raise cL_raise 5 (some .int) (d + 1) mc ms cy [.ref (ka S 0 0), .int p0, .int p1, .ref (ka S 80 0)] (wc cy S I L R LP ++ wlo cy S G) (fun r w' => r = some (.int 0) ∧ ∃ w9, Pw w9 ∧ w' = w9 ++ wlo cy S (ku G 80 0 0 v.toInt64)) := by
  refine ConH_of (by decide +kernel) (Nat.le_of_ble_eq_true rfl) ?_
  refine JG_eq (lv' := [(0, .ref (ka S 0 0)), (1, .int p0), (2, .int p1), (3, .ref (ka S 80 0))]) rfl rfl rfl ?_
  refine JG_aload_n 3 rfl dL_raise_0 ?_
  refine JG_iconst (v := 0) (by decide) dL_raise_1 ?_
  refine JG_aload_n 0 rfl dL_raise_2 ?_
  refine JG_iload_n 1 rfl dL_raise_3 ?_
  refine JG_iload_n 2 rfl dL_raise_4 ?_
  refine JG_callX7 (As := [.int p0, .int p1]) (rest := [.int 0, .ref (ka S 80 0)]) [] (wlo cy S G) dL_raise_5 hc rfl rfl lm_L_60 kc_yX7_raise ki_yX7_raise kv_yX7_raise kd_yX7_raise ⟨(by show d + 1 ≤ d + 1; exact Nat.le_refl _), (by show 8 + (6 + 11) + (40 * d + 100) ≤ 40 * (d + 1) + 100; omega)⟩ (by show 0 + mc ≤ mc; omega) (by show 0 + ms ≤ ms; omega) (Nat.le_of_ble_eq_true rfl) (fun r9 w9 h9 => ?_) (fun _ _ h => h.elim)
  obtain ⟨rfl, hP⟩ := h9
  refine JG_eq (w' := w9 ++ wlo cy S G) (st' := [.int v, .int 0, .ref (ka S 80 0)]) rfl rfl rfl ?_
  refine JG_i2l dL_raise_8 ?_
  refine JG_lastO dL_raise_9 ?_
  refine JG_goto 25 (by decide) dL_raise_10 ?_
  refine JG_iconst (v := 0) (by decide) dL_raise_25 ?_
  exact JG_iretH dL_raise_26 (⟨rfl, w9, hP, rfl⟩) (by omega) (by omega)

set_option maxRecDepth 20000 in
set_option maxHeartbeats 1000000 in
theorem w_raise_1 {cy : Nat → ClassId} {S : Nat → Nat → Nat} {I : kI} {L : kL} {R : kRf} {LP : List Nat} {G : kL} {d mc ms : Nat} {p0 p1 : Int32} {Pw : va_W → Prop} (hc : Con yX7_raise cX7_raise 6 (some .char) d mc ms cy [.ref (ka S 0 0), .int p0, .int p1] (wc cy S I L R LP) kNo (fun E2 w2 => E2 = "java/util/NoSuchElementException" ∧ Pw w2)) : ConH [(0, 10, 13, 41), (0, 10, 17, 13), (0, 10, 21, 15)] yL_raise cL_raise 5 (some .int) (d + 1) mc ms cy [.ref (ka S 0 0), .int p0, .int p1, .ref (ka S 80 0)] (wc cy S I L R LP ++ wlo cy S G) (fun r w' => r = some (.int 1) ∧ ∃ w9, Pw w9 ∧ w' = w9 ++ wlo cy S G) := by
  refine ConH_of (by decide +kernel) (Nat.le_of_ble_eq_true rfl) ?_
  refine JG_eq (lv' := [(0, .ref (ka S 0 0)), (1, .int p0), (2, .int p1), (3, .ref (ka S 80 0))]) rfl rfl rfl ?_
  refine JG_aload_n 3 rfl dL_raise_0 ?_
  refine JG_iconst (v := 0) (by decide) dL_raise_1 ?_
  refine JG_aload_n 0 rfl dL_raise_2 ?_
  refine JG_iload_n 1 rfl dL_raise_3 ?_
  refine JG_iload_n 2 rfl dL_raise_4 ?_
  refine JG_callX7 (As := [.int p0, .int p1]) (rest := [.int 0, .ref (ka S 80 0)]) [] (wlo cy S G) dL_raise_5 hc rfl rfl lm_L_60 kc_yX7_raise ki_yX7_raise kv_yX7_raise kd_yX7_raise ⟨(by show d + 1 ≤ d + 1; exact Nat.le_refl _), (by show 8 + (6 + 11) + (40 * d + 100) ≤ 40 * (d + 1) + 100; omega)⟩ (by show 0 + mc ≤ mc; omega) (by show 0 + ms ≤ ms; omega) (Nat.le_of_ble_eq_true rfl) (fun _ _ h => h.elim) (fun E9 w9 h9 q => ?_)
  obtain ⟨rfl, hP⟩ := h9
  refine JX_catch [] 0 (fun _ _ _ _ _ _ _ _ _ _ _ h => h.1) rfl (by decide) (by decide) lk_L_41 (by decide) (fun j z hj hz => ?_) ?_
  · omega
  refine JG_eq (w' := w9 ++ wlo cy S G) rfl rfl rfl ?_
  refine JG_astore (lv' := [(0, .ref (ka S 0 0)), (1, .int p0), (2, .int p1), (3, .ref (ka S 80 0)), (4, .ref q)]) (by decide) rfl dL_raise_13 ?_
  refine JG_iconst (v := 1) (by decide) dL_raise_15 ?_
  exact JG_iretH dL_raise_16 (⟨rfl, w9, hP, rfl⟩) (by omega) (by omega)

set_option maxRecDepth 20000 in
set_option maxHeartbeats 1000000 in
theorem w_raise_2 {cy : Nat → ClassId} {S : Nat → Nat → Nat} {I : kI} {L : kL} {R : kRf} {LP : List Nat} {G : kL} {d mc ms : Nat} {p0 p1 : Int32} {Pw : va_W → Prop} (hc : Con yX7_raise cX7_raise 6 (some .char) d mc ms cy [.ref (ka S 0 0), .int p0, .int p1] (wc cy S I L R LP) kNo (fun E2 w2 => E2 = "java/lang/IllegalArgumentException" ∧ Pw w2)) : ConH [(0, 10, 13, 41), (0, 10, 17, 13), (0, 10, 21, 15)] yL_raise cL_raise 5 (some .int) (d + 1) mc ms cy [.ref (ka S 0 0), .int p0, .int p1, .ref (ka S 80 0)] (wc cy S I L R LP ++ wlo cy S G) (fun r w' => r = some (.int 2) ∧ ∃ w9, Pw w9 ∧ w' = w9 ++ wlo cy S G) := by
  refine ConH_of (by decide +kernel) (Nat.le_of_ble_eq_true rfl) ?_
  refine JG_eq (lv' := [(0, .ref (ka S 0 0)), (1, .int p0), (2, .int p1), (3, .ref (ka S 80 0))]) rfl rfl rfl ?_
  refine JG_aload_n 3 rfl dL_raise_0 ?_
  refine JG_iconst (v := 0) (by decide) dL_raise_1 ?_
  refine JG_aload_n 0 rfl dL_raise_2 ?_
  refine JG_iload_n 1 rfl dL_raise_3 ?_
  refine JG_iload_n 2 rfl dL_raise_4 ?_
  refine JG_callX7 (As := [.int p0, .int p1]) (rest := [.int 0, .ref (ka S 80 0)]) [] (wlo cy S G) dL_raise_5 hc rfl rfl lm_L_60 kc_yX7_raise ki_yX7_raise kv_yX7_raise kd_yX7_raise ⟨(by show d + 1 ≤ d + 1; exact Nat.le_refl _), (by show 8 + (6 + 11) + (40 * d + 100) ≤ 40 * (d + 1) + 100; omega)⟩ (by show 0 + mc ≤ mc; omega) (by show 0 + ms ≤ ms; omega) (Nat.le_of_ble_eq_true rfl) (fun _ _ h => h.elim) (fun E9 w9 h9 q => ?_)
  obtain ⟨rfl, hP⟩ := h9
  refine JX_catch [] 1 (fun _ _ _ _ _ _ _ _ _ _ _ h => h.1) rfl (by decide) (by decide) lk_L_13 (by decide) (fun j z hj hz => ?_) ?_
  · have hj2 : j = 0 := by omega
    subst hj2
    cases hz
    exact ⟨by decide, _, lk_L_41, by decide⟩
  refine JG_eq (w' := w9 ++ wlo cy S G) rfl rfl rfl ?_
  refine JG_astore (lv' := [(0, .ref (ka S 0 0)), (1, .int p0), (2, .int p1), (3, .ref (ka S 80 0)), (4, .ref q)]) (by decide) rfl dL_raise_17 ?_
  refine JG_iconst (v := 2) (by decide) dL_raise_19 ?_
  exact JG_iretH dL_raise_20 (⟨rfl, w9, hP, rfl⟩) (by omega) (by omega)

set_option maxRecDepth 20000 in
set_option maxHeartbeats 1000000 in
theorem w_raise_3 {cy : Nat → ClassId} {S : Nat → Nat → Nat} {I : kI} {L : kL} {R : kRf} {LP : List Nat} {G : kL} {d mc ms : Nat} {p0 p1 : Int32} {Pw : va_W → Prop} (hc : Con yX7_raise cX7_raise 6 (some .char) d mc ms cy [.ref (ka S 0 0), .int p0, .int p1] (wc cy S I L R LP) kNo (fun E2 w2 => E2 = "java/lang/IllegalStateException" ∧ Pw w2)) : ConH [(0, 10, 13, 41), (0, 10, 17, 13), (0, 10, 21, 15)] yL_raise cL_raise 5 (some .int) (d + 1) mc ms cy [.ref (ka S 0 0), .int p0, .int p1, .ref (ka S 80 0)] (wc cy S I L R LP ++ wlo cy S G) (fun r w' => r = some (.int 3) ∧ ∃ w9, Pw w9 ∧ w' = w9 ++ wlo cy S G) := by
  refine ConH_of (by decide +kernel) (Nat.le_of_ble_eq_true rfl) ?_
  refine JG_eq (lv' := [(0, .ref (ka S 0 0)), (1, .int p0), (2, .int p1), (3, .ref (ka S 80 0))]) rfl rfl rfl ?_
  refine JG_aload_n 3 rfl dL_raise_0 ?_
  refine JG_iconst (v := 0) (by decide) dL_raise_1 ?_
  refine JG_aload_n 0 rfl dL_raise_2 ?_
  refine JG_iload_n 1 rfl dL_raise_3 ?_
  refine JG_iload_n 2 rfl dL_raise_4 ?_
  refine JG_callX7 (As := [.int p0, .int p1]) (rest := [.int 0, .ref (ka S 80 0)]) [] (wlo cy S G) dL_raise_5 hc rfl rfl lm_L_60 kc_yX7_raise ki_yX7_raise kv_yX7_raise kd_yX7_raise ⟨(by show d + 1 ≤ d + 1; exact Nat.le_refl _), (by show 8 + (6 + 11) + (40 * d + 100) ≤ 40 * (d + 1) + 100; omega)⟩ (by show 0 + mc ≤ mc; omega) (by show 0 + ms ≤ ms; omega) (Nat.le_of_ble_eq_true rfl) (fun _ _ h => h.elim) (fun E9 w9 h9 q => ?_)
  obtain ⟨rfl, hP⟩ := h9
  refine JX_catch [] 2 (fun _ _ _ _ _ _ _ _ _ _ _ h => h.1) rfl (by decide) (by decide) lk_L_15 (by decide) (fun j z hj hz => ?_) ?_
  · have hj2 : j = 0 ∨ j = 1 := by omega
    rcases hj2 with rfl | rfl
    · cases hz; exact ⟨by decide, _, lk_L_41, by decide⟩
    · cases hz; exact ⟨by decide, _, lk_L_13, by decide⟩
  refine JG_eq (w' := w9 ++ wlo cy S G) rfl rfl rfl ?_
  refine JG_astore (lv' := [(0, .ref (ka S 0 0)), (1, .int p0), (2, .int p1), (3, .ref (ka S 80 0)), (4, .ref q)]) (by decide) rfl dL_raise_21 ?_
  refine JG_iconst (v := 3) (by decide) dL_raise_23 ?_
  exact JG_iretH dL_raise_24 (⟨rfl, w9, hP, rfl⟩) (by omega) (by omega)

set_option maxRecDepth 20000 in
set_option maxHeartbeats 1000000 in
theorem w_stateOf_s {cy : Nat → ClassId} {S : Nat → Nat → Nat} {I : kI} {L : kL} {R : kRf} {LP : List Nat} {G : kL} {d mc ms : Nat} {p0 : Int32} {Pw : va_W → Prop} {v : Int32}  (hc : Con yX7_stateOf cX7_stateOf 2 (some .char) d mc ms cy [.ref (ka S 0 0), .int p0] (wc cy S I L R LP) (fun r w2 => r = some (.int v) ∧ Pw w2) kF) : ConH [(0, 9, 12, 41)] yL_stateOf cL_stateOf 4 (some .int) (d + 1) mc ms cy [.ref (ka S 0 0), .int p0, .ref (ka S 80 0)] (wc cy S I L R LP ++ wlo cy S G) (fun r w' => r = some (.int 0) ∧ ∃ w9, Pw w9 ∧ w' = w9 ++ wlo cy S (ku G 80 0 0 v.toInt64)) := by
  refine ConH_of (by decide +kernel) (Nat.le_of_ble_eq_true rfl) ?_
  refine JG_eq (lv' := [(0, .ref (ka S 0 0)), (1, .int p0), (2, .ref (ka S 80 0))]) rfl rfl rfl ?_
  refine JG_aload_n 2 rfl dL_stateOf_0 ?_
  refine JG_iconst (v := 0) (by decide) dL_stateOf_1 ?_
  refine JG_aload_n 0 rfl dL_stateOf_2 ?_
  refine JG_iload_n 1 rfl dL_stateOf_3 ?_
  refine JG_callX7 (As := [.int p0]) (rest := [.int 0, .ref (ka S 80 0)]) [] (wlo cy S G) dL_stateOf_4 hc rfl rfl lm_L_64 kc_yX7_stateOf ki_yX7_stateOf kv_yX7_stateOf kd_yX7_stateOf ⟨(by show d + 1 ≤ d + 1; exact Nat.le_refl _), (by show 8 + (2 + 11) + (40 * d + 100) ≤ 40 * (d + 1) + 100; omega)⟩ (by show 0 + mc ≤ mc; omega) (by show 0 + ms ≤ ms; omega) (Nat.le_of_ble_eq_true rfl) (fun r9 w9 h9 => ?_) (fun _ _ h => h.elim)
  obtain ⟨rfl, hP⟩ := h9
  refine JG_eq (w' := w9 ++ wlo cy S G) (st' := [.int v, .int 0, .ref (ka S 80 0)]) rfl rfl rfl ?_
  refine JG_i2l dL_stateOf_7 ?_
  refine JG_lastO dL_stateOf_8 ?_
  refine JG_goto 15 (by decide) dL_stateOf_9 ?_
  refine JG_iconst (v := 0) (by decide) dL_stateOf_15 ?_
  exact JG_iretH dL_stateOf_16 (⟨rfl, w9, hP, rfl⟩) (by omega) (by omega)

set_option maxRecDepth 20000 in
set_option maxHeartbeats 1000000 in
theorem w_stateOf_1 {cy : Nat → ClassId} {S : Nat → Nat → Nat} {I : kI} {L : kL} {R : kRf} {LP : List Nat} {G : kL} {d mc ms : Nat} {p0 : Int32} {Pw : va_W → Prop} (hc : Con yX7_stateOf cX7_stateOf 2 (some .char) d mc ms cy [.ref (ka S 0 0), .int p0] (wc cy S I L R LP) kNo (fun E2 w2 => E2 = "java/util/NoSuchElementException" ∧ Pw w2)) : ConH [(0, 9, 12, 41)] yL_stateOf cL_stateOf 4 (some .int) (d + 1) mc ms cy [.ref (ka S 0 0), .int p0, .ref (ka S 80 0)] (wc cy S I L R LP ++ wlo cy S G) (fun r w' => r = some (.int 1) ∧ ∃ w9, Pw w9 ∧ w' = w9 ++ wlo cy S G) := by
  refine ConH_of (by decide +kernel) (Nat.le_of_ble_eq_true rfl) ?_
  refine JG_eq (lv' := [(0, .ref (ka S 0 0)), (1, .int p0), (2, .ref (ka S 80 0))]) rfl rfl rfl ?_
  refine JG_aload_n 2 rfl dL_stateOf_0 ?_
  refine JG_iconst (v := 0) (by decide) dL_stateOf_1 ?_
  refine JG_aload_n 0 rfl dL_stateOf_2 ?_
  refine JG_iload_n 1 rfl dL_stateOf_3 ?_
  refine JG_callX7 (As := [.int p0]) (rest := [.int 0, .ref (ka S 80 0)]) [] (wlo cy S G) dL_stateOf_4 hc rfl rfl lm_L_64 kc_yX7_stateOf ki_yX7_stateOf kv_yX7_stateOf kd_yX7_stateOf ⟨(by show d + 1 ≤ d + 1; exact Nat.le_refl _), (by show 8 + (2 + 11) + (40 * d + 100) ≤ 40 * (d + 1) + 100; omega)⟩ (by show 0 + mc ≤ mc; omega) (by show 0 + ms ≤ ms; omega) (Nat.le_of_ble_eq_true rfl) (fun _ _ h => h.elim) (fun E9 w9 h9 q => ?_)
  obtain ⟨rfl, hP⟩ := h9
  refine JX_catch [] 0 (fun _ _ _ _ _ _ _ _ _ _ _ h => h.1) rfl (by decide) (by decide) lk_L_41 (by decide) (fun j z hj hz => ?_) ?_
  · omega
  refine JG_eq (w' := w9 ++ wlo cy S G) rfl rfl rfl ?_
  refine JG_astore_n (lv' := [(0, .ref (ka S 0 0)), (1, .int p0), (2, .ref (ka S 80 0)), (3, .ref q)]) (by decide) rfl dL_stateOf_12 ?_
  refine JG_iconst (v := 1) (by decide) dL_stateOf_13 ?_
  exact JG_iretH dL_stateOf_14 (⟨rfl, w9, hP, rfl⟩) (by omega) (by omega)

set_option maxRecDepth 20000 in
set_option maxHeartbeats 1000000 in
theorem w_urgencyOf_s {cy : Nat → ClassId} {S : Nat → Nat → Nat} {I : kI} {L : kL} {R : kRf} {LP : List Nat} {G : kL} {d mc ms : Nat} {p0 : Int32} {Pw : va_W → Prop} {v : Int32}  (hc : Con yX7_urgencyOf cX7_urgencyOf 2 (some .char) d mc ms cy [.ref (ka S 0 0), .int p0] (wc cy S I L R LP) (fun r w2 => r = some (.int v) ∧ Pw w2) kF) : ConH [(0, 9, 12, 41)] yL_urgencyOf cL_urgencyOf 4 (some .int) (d + 1) mc ms cy [.ref (ka S 0 0), .int p0, .ref (ka S 80 0)] (wc cy S I L R LP ++ wlo cy S G) (fun r w' => r = some (.int 0) ∧ ∃ w9, Pw w9 ∧ w' = w9 ++ wlo cy S (ku G 80 0 0 v.toInt64)) := by
  refine ConH_of (by decide +kernel) (Nat.le_of_ble_eq_true rfl) ?_
  refine JG_eq (lv' := [(0, .ref (ka S 0 0)), (1, .int p0), (2, .ref (ka S 80 0))]) rfl rfl rfl ?_
  refine JG_aload_n 2 rfl dL_urgencyOf_0 ?_
  refine JG_iconst (v := 0) (by decide) dL_urgencyOf_1 ?_
  refine JG_aload_n 0 rfl dL_urgencyOf_2 ?_
  refine JG_iload_n 1 rfl dL_urgencyOf_3 ?_
  refine JG_callX7 (As := [.int p0]) (rest := [.int 0, .ref (ka S 80 0)]) [] (wlo cy S G) dL_urgencyOf_4 hc rfl rfl lm_L_68 kc_yX7_urgencyOf ki_yX7_urgencyOf kv_yX7_urgencyOf kd_yX7_urgencyOf ⟨(by show d + 1 ≤ d + 1; exact Nat.le_refl _), (by show 8 + (2 + 11) + (40 * d + 100) ≤ 40 * (d + 1) + 100; omega)⟩ (by show 0 + mc ≤ mc; omega) (by show 0 + ms ≤ ms; omega) (Nat.le_of_ble_eq_true rfl) (fun r9 w9 h9 => ?_) (fun _ _ h => h.elim)
  obtain ⟨rfl, hP⟩ := h9
  refine JG_eq (w' := w9 ++ wlo cy S G) (st' := [.int v, .int 0, .ref (ka S 80 0)]) rfl rfl rfl ?_
  refine JG_i2l dL_urgencyOf_7 ?_
  refine JG_lastO dL_urgencyOf_8 ?_
  refine JG_goto 15 (by decide) dL_urgencyOf_9 ?_
  refine JG_iconst (v := 0) (by decide) dL_urgencyOf_15 ?_
  exact JG_iretH dL_urgencyOf_16 (⟨rfl, w9, hP, rfl⟩) (by omega) (by omega)

set_option maxRecDepth 20000 in
set_option maxHeartbeats 1000000 in
theorem w_urgencyOf_1 {cy : Nat → ClassId} {S : Nat → Nat → Nat} {I : kI} {L : kL} {R : kRf} {LP : List Nat} {G : kL} {d mc ms : Nat} {p0 : Int32} {Pw : va_W → Prop} (hc : Con yX7_urgencyOf cX7_urgencyOf 2 (some .char) d mc ms cy [.ref (ka S 0 0), .int p0] (wc cy S I L R LP) kNo (fun E2 w2 => E2 = "java/util/NoSuchElementException" ∧ Pw w2)) : ConH [(0, 9, 12, 41)] yL_urgencyOf cL_urgencyOf 4 (some .int) (d + 1) mc ms cy [.ref (ka S 0 0), .int p0, .ref (ka S 80 0)] (wc cy S I L R LP ++ wlo cy S G) (fun r w' => r = some (.int 1) ∧ ∃ w9, Pw w9 ∧ w' = w9 ++ wlo cy S G) := by
  refine ConH_of (by decide +kernel) (Nat.le_of_ble_eq_true rfl) ?_
  refine JG_eq (lv' := [(0, .ref (ka S 0 0)), (1, .int p0), (2, .ref (ka S 80 0))]) rfl rfl rfl ?_
  refine JG_aload_n 2 rfl dL_urgencyOf_0 ?_
  refine JG_iconst (v := 0) (by decide) dL_urgencyOf_1 ?_
  refine JG_aload_n 0 rfl dL_urgencyOf_2 ?_
  refine JG_iload_n 1 rfl dL_urgencyOf_3 ?_
  refine JG_callX7 (As := [.int p0]) (rest := [.int 0, .ref (ka S 80 0)]) [] (wlo cy S G) dL_urgencyOf_4 hc rfl rfl lm_L_68 kc_yX7_urgencyOf ki_yX7_urgencyOf kv_yX7_urgencyOf kd_yX7_urgencyOf ⟨(by show d + 1 ≤ d + 1; exact Nat.le_refl _), (by show 8 + (2 + 11) + (40 * d + 100) ≤ 40 * (d + 1) + 100; omega)⟩ (by show 0 + mc ≤ mc; omega) (by show 0 + ms ≤ ms; omega) (Nat.le_of_ble_eq_true rfl) (fun _ _ h => h.elim) (fun E9 w9 h9 q => ?_)
  obtain ⟨rfl, hP⟩ := h9
  refine JX_catch [] 0 (fun _ _ _ _ _ _ _ _ _ _ _ h => h.1) rfl (by decide) (by decide) lk_L_41 (by decide) (fun j z hj hz => ?_) ?_
  · omega
  refine JG_eq (w' := w9 ++ wlo cy S G) rfl rfl rfl ?_
  refine JG_astore_n (lv' := [(0, .ref (ka S 0 0)), (1, .int p0), (2, .ref (ka S 80 0)), (3, .ref q)]) (by decide) rfl dL_urgencyOf_12 ?_
  refine JG_iconst (v := 1) (by decide) dL_urgencyOf_13 ?_
  exact JG_iretH dL_urgencyOf_14 (⟨rfl, w9, hP, rfl⟩) (by omega) (by omega)

set_option maxRecDepth 20000 in
set_option maxHeartbeats 1000000 in
theorem w_leftOf_s {cy : Nat → ClassId} {S : Nat → Nat → Nat} {I : kI} {L : kL} {R : kRf} {LP : List Nat} {G : kL} {d mc ms : Nat} {p0 : Int32} {Pw : va_W → Prop} {v : Int32}  (hc : Con yX7_leftOf cX7_leftOf 2 (some .int) d mc ms cy [.ref (ka S 0 0), .int p0] (wc cy S I L R LP) (fun r w2 => r = some (.int v) ∧ Pw w2) kF) : ConH [(0, 9, 12, 41)] yL_leftOf cL_leftOf 4 (some .int) (d + 1) mc ms cy [.ref (ka S 0 0), .int p0, .ref (ka S 80 0)] (wc cy S I L R LP ++ wlo cy S G) (fun r w' => r = some (.int 0) ∧ ∃ w9, Pw w9 ∧ w' = w9 ++ wlo cy S (ku G 80 0 0 v.toInt64)) := by
  refine ConH_of (by decide +kernel) (Nat.le_of_ble_eq_true rfl) ?_
  refine JG_eq (lv' := [(0, .ref (ka S 0 0)), (1, .int p0), (2, .ref (ka S 80 0))]) rfl rfl rfl ?_
  refine JG_aload_n 2 rfl dL_leftOf_0 ?_
  refine JG_iconst (v := 0) (by decide) dL_leftOf_1 ?_
  refine JG_aload_n 0 rfl dL_leftOf_2 ?_
  refine JG_iload_n 1 rfl dL_leftOf_3 ?_
  refine JG_callX7 (As := [.int p0]) (rest := [.int 0, .ref (ka S 80 0)]) [] (wlo cy S G) dL_leftOf_4 hc rfl rfl lm_L_71 kc_yX7_leftOf ki_yX7_leftOf kv_yX7_leftOf kd_yX7_leftOf ⟨(by show d + 1 ≤ d + 1; exact Nat.le_refl _), (by show 8 + (2 + 11) + (40 * d + 100) ≤ 40 * (d + 1) + 100; omega)⟩ (by show 0 + mc ≤ mc; omega) (by show 0 + ms ≤ ms; omega) (Nat.le_of_ble_eq_true rfl) (fun r9 w9 h9 => ?_) (fun _ _ h => h.elim)
  obtain ⟨rfl, hP⟩ := h9
  refine JG_eq (w' := w9 ++ wlo cy S G) (st' := [.int v, .int 0, .ref (ka S 80 0)]) rfl rfl rfl ?_
  refine JG_i2l dL_leftOf_7 ?_
  refine JG_lastO dL_leftOf_8 ?_
  refine JG_goto 15 (by decide) dL_leftOf_9 ?_
  refine JG_iconst (v := 0) (by decide) dL_leftOf_15 ?_
  exact JG_iretH dL_leftOf_16 (⟨rfl, w9, hP, rfl⟩) (by omega) (by omega)

set_option maxRecDepth 20000 in
set_option maxHeartbeats 1000000 in
theorem w_leftOf_1 {cy : Nat → ClassId} {S : Nat → Nat → Nat} {I : kI} {L : kL} {R : kRf} {LP : List Nat} {G : kL} {d mc ms : Nat} {p0 : Int32} {Pw : va_W → Prop} (hc : Con yX7_leftOf cX7_leftOf 2 (some .int) d mc ms cy [.ref (ka S 0 0), .int p0] (wc cy S I L R LP) kNo (fun E2 w2 => E2 = "java/util/NoSuchElementException" ∧ Pw w2)) : ConH [(0, 9, 12, 41)] yL_leftOf cL_leftOf 4 (some .int) (d + 1) mc ms cy [.ref (ka S 0 0), .int p0, .ref (ka S 80 0)] (wc cy S I L R LP ++ wlo cy S G) (fun r w' => r = some (.int 1) ∧ ∃ w9, Pw w9 ∧ w' = w9 ++ wlo cy S G) := by
  refine ConH_of (by decide +kernel) (Nat.le_of_ble_eq_true rfl) ?_
  refine JG_eq (lv' := [(0, .ref (ka S 0 0)), (1, .int p0), (2, .ref (ka S 80 0))]) rfl rfl rfl ?_
  refine JG_aload_n 2 rfl dL_leftOf_0 ?_
  refine JG_iconst (v := 0) (by decide) dL_leftOf_1 ?_
  refine JG_aload_n 0 rfl dL_leftOf_2 ?_
  refine JG_iload_n 1 rfl dL_leftOf_3 ?_
  refine JG_callX7 (As := [.int p0]) (rest := [.int 0, .ref (ka S 80 0)]) [] (wlo cy S G) dL_leftOf_4 hc rfl rfl lm_L_71 kc_yX7_leftOf ki_yX7_leftOf kv_yX7_leftOf kd_yX7_leftOf ⟨(by show d + 1 ≤ d + 1; exact Nat.le_refl _), (by show 8 + (2 + 11) + (40 * d + 100) ≤ 40 * (d + 1) + 100; omega)⟩ (by show 0 + mc ≤ mc; omega) (by show 0 + ms ≤ ms; omega) (Nat.le_of_ble_eq_true rfl) (fun _ _ h => h.elim) (fun E9 w9 h9 q => ?_)
  obtain ⟨rfl, hP⟩ := h9
  refine JX_catch [] 0 (fun _ _ _ _ _ _ _ _ _ _ _ h => h.1) rfl (by decide) (by decide) lk_L_41 (by decide) (fun j z hj hz => ?_) ?_
  · omega
  refine JG_eq (w' := w9 ++ wlo cy S G) rfl rfl rfl ?_
  refine JG_astore_n (lv' := [(0, .ref (ka S 0 0)), (1, .int p0), (2, .ref (ka S 80 0)), (3, .ref q)]) (by decide) rfl dL_leftOf_12 ?_
  refine JG_iconst (v := 1) (by decide) dL_leftOf_13 ?_
  exact JG_iretH dL_leftOf_14 (⟨rfl, w9, hP, rfl⟩) (by omega) (by omega)

set_option maxRecDepth 20000 in
set_option maxHeartbeats 1000000 in
theorem w_channelOf_s {cy : Nat → ClassId} {S : Nat → Nat → Nat} {I : kI} {L : kL} {R : kRf} {LP : List Nat} {G : kL} {d mc ms : Nat} {p0 : Int32} {Pw : va_W → Prop} {v : Int32}  (hc : Con yX7_channelOf cX7_channelOf 3 (some .int) d mc ms cy [.ref (ka S 0 0), .int p0] (wc cy S I L R LP) (fun r w2 => r = some (.int v) ∧ Pw w2) kF) : ConH [(0, 9, 12, 41), (0, 9, 15, 15)] yL_channelOf cL_channelOf 4 (some .int) (d + 1) mc ms cy [.ref (ka S 0 0), .int p0, .ref (ka S 80 0)] (wc cy S I L R LP ++ wlo cy S G) (fun r w' => r = some (.int 0) ∧ ∃ w9, Pw w9 ∧ w' = w9 ++ wlo cy S (ku G 80 0 0 v.toInt64)) := by
  refine ConH_of (by decide +kernel) (Nat.le_of_ble_eq_true rfl) ?_
  refine JG_eq (lv' := [(0, .ref (ka S 0 0)), (1, .int p0), (2, .ref (ka S 80 0))]) rfl rfl rfl ?_
  refine JG_aload_n 2 rfl dL_channelOf_0 ?_
  refine JG_iconst (v := 0) (by decide) dL_channelOf_1 ?_
  refine JG_aload_n 0 rfl dL_channelOf_2 ?_
  refine JG_iload_n 1 rfl dL_channelOf_3 ?_
  refine JG_callX7 (As := [.int p0]) (rest := [.int 0, .ref (ka S 80 0)]) [] (wlo cy S G) dL_channelOf_4 hc rfl rfl lm_L_74 kc_yX7_channelOf ki_yX7_channelOf kv_yX7_channelOf kd_yX7_channelOf ⟨(by show d + 1 ≤ d + 1; exact Nat.le_refl _), (by show 8 + (3 + 11) + (40 * d + 100) ≤ 40 * (d + 1) + 100; omega)⟩ (by show 0 + mc ≤ mc; omega) (by show 0 + ms ≤ ms; omega) (Nat.le_of_ble_eq_true rfl) (fun r9 w9 h9 => ?_) (fun _ _ h => h.elim)
  obtain ⟨rfl, hP⟩ := h9
  refine JG_eq (w' := w9 ++ wlo cy S G) (st' := [.int v, .int 0, .ref (ka S 80 0)]) rfl rfl rfl ?_
  refine JG_i2l dL_channelOf_7 ?_
  refine JG_lastO dL_channelOf_8 ?_
  refine JG_goto 18 (by decide) dL_channelOf_9 ?_
  refine JG_iconst (v := 0) (by decide) dL_channelOf_18 ?_
  exact JG_iretH dL_channelOf_19 (⟨rfl, w9, hP, rfl⟩) (by omega) (by omega)

set_option maxRecDepth 20000 in
set_option maxHeartbeats 1000000 in
theorem w_channelOf_1 {cy : Nat → ClassId} {S : Nat → Nat → Nat} {I : kI} {L : kL} {R : kRf} {LP : List Nat} {G : kL} {d mc ms : Nat} {p0 : Int32} {Pw : va_W → Prop} (hc : Con yX7_channelOf cX7_channelOf 3 (some .int) d mc ms cy [.ref (ka S 0 0), .int p0] (wc cy S I L R LP) kNo (fun E2 w2 => E2 = "java/util/NoSuchElementException" ∧ Pw w2)) : ConH [(0, 9, 12, 41), (0, 9, 15, 15)] yL_channelOf cL_channelOf 4 (some .int) (d + 1) mc ms cy [.ref (ka S 0 0), .int p0, .ref (ka S 80 0)] (wc cy S I L R LP ++ wlo cy S G) (fun r w' => r = some (.int 1) ∧ ∃ w9, Pw w9 ∧ w' = w9 ++ wlo cy S G) := by
  refine ConH_of (by decide +kernel) (Nat.le_of_ble_eq_true rfl) ?_
  refine JG_eq (lv' := [(0, .ref (ka S 0 0)), (1, .int p0), (2, .ref (ka S 80 0))]) rfl rfl rfl ?_
  refine JG_aload_n 2 rfl dL_channelOf_0 ?_
  refine JG_iconst (v := 0) (by decide) dL_channelOf_1 ?_
  refine JG_aload_n 0 rfl dL_channelOf_2 ?_
  refine JG_iload_n 1 rfl dL_channelOf_3 ?_
  refine JG_callX7 (As := [.int p0]) (rest := [.int 0, .ref (ka S 80 0)]) [] (wlo cy S G) dL_channelOf_4 hc rfl rfl lm_L_74 kc_yX7_channelOf ki_yX7_channelOf kv_yX7_channelOf kd_yX7_channelOf ⟨(by show d + 1 ≤ d + 1; exact Nat.le_refl _), (by show 8 + (3 + 11) + (40 * d + 100) ≤ 40 * (d + 1) + 100; omega)⟩ (by show 0 + mc ≤ mc; omega) (by show 0 + ms ≤ ms; omega) (Nat.le_of_ble_eq_true rfl) (fun _ _ h => h.elim) (fun E9 w9 h9 q => ?_)
  obtain ⟨rfl, hP⟩ := h9
  refine JX_catch [] 0 (fun _ _ _ _ _ _ _ _ _ _ _ h => h.1) rfl (by decide) (by decide) lk_L_41 (by decide) (fun j z hj hz => ?_) ?_
  · omega
  refine JG_eq (w' := w9 ++ wlo cy S G) rfl rfl rfl ?_
  refine JG_astore_n (lv' := [(0, .ref (ka S 0 0)), (1, .int p0), (2, .ref (ka S 80 0)), (3, .ref q)]) (by decide) rfl dL_channelOf_12 ?_
  refine JG_iconst (v := 1) (by decide) dL_channelOf_13 ?_
  exact JG_iretH dL_channelOf_14 (⟨rfl, w9, hP, rfl⟩) (by omega) (by omega)

set_option maxRecDepth 20000 in
set_option maxHeartbeats 1000000 in
theorem w_channelOf_2 {cy : Nat → ClassId} {S : Nat → Nat → Nat} {I : kI} {L : kL} {R : kRf} {LP : List Nat} {G : kL} {d mc ms : Nat} {p0 : Int32} {Pw : va_W → Prop} (hc : Con yX7_channelOf cX7_channelOf 3 (some .int) d mc ms cy [.ref (ka S 0 0), .int p0] (wc cy S I L R LP) kNo (fun E2 w2 => E2 = "java/lang/IllegalStateException" ∧ Pw w2)) : ConH [(0, 9, 12, 41), (0, 9, 15, 15)] yL_channelOf cL_channelOf 4 (some .int) (d + 1) mc ms cy [.ref (ka S 0 0), .int p0, .ref (ka S 80 0)] (wc cy S I L R LP ++ wlo cy S G) (fun r w' => r = some (.int 2) ∧ ∃ w9, Pw w9 ∧ w' = w9 ++ wlo cy S G) := by
  refine ConH_of (by decide +kernel) (Nat.le_of_ble_eq_true rfl) ?_
  refine JG_eq (lv' := [(0, .ref (ka S 0 0)), (1, .int p0), (2, .ref (ka S 80 0))]) rfl rfl rfl ?_
  refine JG_aload_n 2 rfl dL_channelOf_0 ?_
  refine JG_iconst (v := 0) (by decide) dL_channelOf_1 ?_
  refine JG_aload_n 0 rfl dL_channelOf_2 ?_
  refine JG_iload_n 1 rfl dL_channelOf_3 ?_
  refine JG_callX7 (As := [.int p0]) (rest := [.int 0, .ref (ka S 80 0)]) [] (wlo cy S G) dL_channelOf_4 hc rfl rfl lm_L_74 kc_yX7_channelOf ki_yX7_channelOf kv_yX7_channelOf kd_yX7_channelOf ⟨(by show d + 1 ≤ d + 1; exact Nat.le_refl _), (by show 8 + (3 + 11) + (40 * d + 100) ≤ 40 * (d + 1) + 100; omega)⟩ (by show 0 + mc ≤ mc; omega) (by show 0 + ms ≤ ms; omega) (Nat.le_of_ble_eq_true rfl) (fun _ _ h => h.elim) (fun E9 w9 h9 q => ?_)
  obtain ⟨rfl, hP⟩ := h9
  refine JX_catch [] 1 (fun _ _ _ _ _ _ _ _ _ _ _ h => h.1) rfl (by decide) (by decide) lk_L_15 (by decide) (fun j z hj hz => ?_) ?_
  · have hj2 : j = 0 := by omega
    subst hj2
    cases hz
    exact ⟨by decide, _, lk_L_41, by decide⟩
  refine JG_eq (w' := w9 ++ wlo cy S G) rfl rfl rfl ?_
  refine JG_astore_n (lv' := [(0, .ref (ka S 0 0)), (1, .int p0), (2, .ref (ka S 80 0)), (3, .ref q)]) (by decide) rfl dL_channelOf_15 ?_
  refine JG_iconst (v := 2) (by decide) dL_channelOf_16 ?_
  exact JG_iretH dL_channelOf_17 (⟨rfl, w9, hP, rfl⟩) (by omega) (by omega)

set_option maxRecDepth 20000 in
set_option maxHeartbeats 1000000 in
theorem w_interruptions_s {cy : Nat → ClassId} {S : Nat → Nat → Nat} {I : kI} {L : kL} {R : kRf} {LP : List Nat} {G : kL} {d mc ms : Nat} {p0 : Int32} {Pw : va_W → Prop} {v : Int32}  (hc : Con yX7_interruptions cX7_interruptions 2 (some .int) d mc ms cy [.ref (ka S 0 0), .int p0] (wc cy S I L R LP) (fun r w2 => r = some (.int v) ∧ Pw w2) kF) : ConH [(0, 9, 12, 41)] yL_interruptions cL_interruptions 4 (some .int) (d + 1) mc ms cy [.ref (ka S 0 0), .int p0, .ref (ka S 80 0)] (wc cy S I L R LP ++ wlo cy S G) (fun r w' => r = some (.int 0) ∧ ∃ w9, Pw w9 ∧ w' = w9 ++ wlo cy S (ku G 80 0 0 v.toInt64)) := by
  refine ConH_of (by decide +kernel) (Nat.le_of_ble_eq_true rfl) ?_
  refine JG_eq (lv' := [(0, .ref (ka S 0 0)), (1, .int p0), (2, .ref (ka S 80 0))]) rfl rfl rfl ?_
  refine JG_aload_n 2 rfl dL_interruptions_0 ?_
  refine JG_iconst (v := 0) (by decide) dL_interruptions_1 ?_
  refine JG_aload_n 0 rfl dL_interruptions_2 ?_
  refine JG_iload_n 1 rfl dL_interruptions_3 ?_
  refine JG_callX7 (As := [.int p0]) (rest := [.int 0, .ref (ka S 80 0)]) [] (wlo cy S G) dL_interruptions_4 hc rfl rfl lm_L_77 kc_yX7_interruptions ki_yX7_interruptions kv_yX7_interruptions kd_yX7_interruptions ⟨(by show d + 1 ≤ d + 1; exact Nat.le_refl _), (by show 8 + (2 + 11) + (40 * d + 100) ≤ 40 * (d + 1) + 100; omega)⟩ (by show 0 + mc ≤ mc; omega) (by show 0 + ms ≤ ms; omega) (Nat.le_of_ble_eq_true rfl) (fun r9 w9 h9 => ?_) (fun _ _ h => h.elim)
  obtain ⟨rfl, hP⟩ := h9
  refine JG_eq (w' := w9 ++ wlo cy S G) (st' := [.int v, .int 0, .ref (ka S 80 0)]) rfl rfl rfl ?_
  refine JG_i2l dL_interruptions_7 ?_
  refine JG_lastO dL_interruptions_8 ?_
  refine JG_goto 15 (by decide) dL_interruptions_9 ?_
  refine JG_iconst (v := 0) (by decide) dL_interruptions_15 ?_
  exact JG_iretH dL_interruptions_16 (⟨rfl, w9, hP, rfl⟩) (by omega) (by omega)

set_option maxRecDepth 20000 in
set_option maxHeartbeats 1000000 in
theorem w_interruptions_1 {cy : Nat → ClassId} {S : Nat → Nat → Nat} {I : kI} {L : kL} {R : kRf} {LP : List Nat} {G : kL} {d mc ms : Nat} {p0 : Int32} {Pw : va_W → Prop} (hc : Con yX7_interruptions cX7_interruptions 2 (some .int) d mc ms cy [.ref (ka S 0 0), .int p0] (wc cy S I L R LP) kNo (fun E2 w2 => E2 = "java/util/NoSuchElementException" ∧ Pw w2)) : ConH [(0, 9, 12, 41)] yL_interruptions cL_interruptions 4 (some .int) (d + 1) mc ms cy [.ref (ka S 0 0), .int p0, .ref (ka S 80 0)] (wc cy S I L R LP ++ wlo cy S G) (fun r w' => r = some (.int 1) ∧ ∃ w9, Pw w9 ∧ w' = w9 ++ wlo cy S G) := by
  refine ConH_of (by decide +kernel) (Nat.le_of_ble_eq_true rfl) ?_
  refine JG_eq (lv' := [(0, .ref (ka S 0 0)), (1, .int p0), (2, .ref (ka S 80 0))]) rfl rfl rfl ?_
  refine JG_aload_n 2 rfl dL_interruptions_0 ?_
  refine JG_iconst (v := 0) (by decide) dL_interruptions_1 ?_
  refine JG_aload_n 0 rfl dL_interruptions_2 ?_
  refine JG_iload_n 1 rfl dL_interruptions_3 ?_
  refine JG_callX7 (As := [.int p0]) (rest := [.int 0, .ref (ka S 80 0)]) [] (wlo cy S G) dL_interruptions_4 hc rfl rfl lm_L_77 kc_yX7_interruptions ki_yX7_interruptions kv_yX7_interruptions kd_yX7_interruptions ⟨(by show d + 1 ≤ d + 1; exact Nat.le_refl _), (by show 8 + (2 + 11) + (40 * d + 100) ≤ 40 * (d + 1) + 100; omega)⟩ (by show 0 + mc ≤ mc; omega) (by show 0 + ms ≤ ms; omega) (Nat.le_of_ble_eq_true rfl) (fun _ _ h => h.elim) (fun E9 w9 h9 q => ?_)
  obtain ⟨rfl, hP⟩ := h9
  refine JX_catch [] 0 (fun _ _ _ _ _ _ _ _ _ _ _ h => h.1) rfl (by decide) (by decide) lk_L_41 (by decide) (fun j z hj hz => ?_) ?_
  · omega
  refine JG_eq (w' := w9 ++ wlo cy S G) rfl rfl rfl ?_
  refine JG_astore_n (lv' := [(0, .ref (ka S 0 0)), (1, .int p0), (2, .ref (ka S 80 0)), (3, .ref q)]) (by decide) rfl dL_interruptions_12 ?_
  refine JG_iconst (v := 1) (by decide) dL_interruptions_13 ?_
  exact JG_iretH dL_interruptions_14 (⟨rfl, w9, hP, rfl⟩) (by omega) (by omega)

set_option maxRecDepth 20000 in
set_option maxHeartbeats 1000000 in
theorem w_speakerOn_s {cy : Nat → ClassId} {S : Nat → Nat → Nat} {I : kI} {L : kL} {R : kRf} {LP : List Nat} {G : kL} {d mc ms : Nat} {p0 : Int32} {Pw : va_W → Prop} {v : Int32}  (hc : Con yX7_speakerOn cX7_speakerOn 2 (some .int) d mc ms cy [.ref (ka S 0 0), .int p0] (wc cy S I L R LP) (fun r w2 => r = some (.int v) ∧ Pw w2) kF) : ConH [(0, 9, 12, 20), (0, 9, 15, 41)] yL_speakerOn cL_speakerOn 4 (some .int) (d + 1) mc ms cy [.ref (ka S 0 0), .int p0, .ref (ka S 80 0)] (wc cy S I L R LP ++ wlo cy S G) (fun r w' => r = some (.int 0) ∧ ∃ w9, Pw w9 ∧ w' = w9 ++ wlo cy S (ku G 80 0 0 v.toInt64)) := by
  refine ConH_of (by decide +kernel) (Nat.le_of_ble_eq_true rfl) ?_
  refine JG_eq (lv' := [(0, .ref (ka S 0 0)), (1, .int p0), (2, .ref (ka S 80 0))]) rfl rfl rfl ?_
  refine JG_aload_n 2 rfl dL_speakerOn_0 ?_
  refine JG_iconst (v := 0) (by decide) dL_speakerOn_1 ?_
  refine JG_aload_n 0 rfl dL_speakerOn_2 ?_
  refine JG_iload_n 1 rfl dL_speakerOn_3 ?_
  refine JG_callX7 (As := [.int p0]) (rest := [.int 0, .ref (ka S 80 0)]) [] (wlo cy S G) dL_speakerOn_4 hc rfl rfl lm_L_80 kc_yX7_speakerOn ki_yX7_speakerOn kv_yX7_speakerOn kd_yX7_speakerOn ⟨(by show d + 1 ≤ d + 1; exact Nat.le_refl _), (by show 8 + (2 + 11) + (40 * d + 100) ≤ 40 * (d + 1) + 100; omega)⟩ (by show 0 + mc ≤ mc; omega) (by show 0 + ms ≤ ms; omega) (Nat.le_of_ble_eq_true rfl) (fun r9 w9 h9 => ?_) (fun _ _ h => h.elim)
  obtain ⟨rfl, hP⟩ := h9
  refine JG_eq (w' := w9 ++ wlo cy S G) (st' := [.int v, .int 0, .ref (ka S 80 0)]) rfl rfl rfl ?_
  refine JG_i2l dL_speakerOn_7 ?_
  refine JG_lastO dL_speakerOn_8 ?_
  refine JG_goto 18 (by decide) dL_speakerOn_9 ?_
  refine JG_iconst (v := 0) (by decide) dL_speakerOn_18 ?_
  exact JG_iretH dL_speakerOn_19 (⟨rfl, w9, hP, rfl⟩) (by omega) (by omega)

set_option maxRecDepth 20000 in
set_option maxHeartbeats 1000000 in
theorem w_speakerOn_1 {cy : Nat → ClassId} {S : Nat → Nat → Nat} {I : kI} {L : kL} {R : kRf} {LP : List Nat} {G : kL} {d mc ms : Nat} {p0 : Int32} {Pw : va_W → Prop} (hc : Con yX7_speakerOn cX7_speakerOn 2 (some .int) d mc ms cy [.ref (ka S 0 0), .int p0] (wc cy S I L R LP) kNo (fun E2 w2 => E2 = "java/lang/IndexOutOfBoundsException" ∧ Pw w2)) : ConH [(0, 9, 12, 20), (0, 9, 15, 41)] yL_speakerOn cL_speakerOn 4 (some .int) (d + 1) mc ms cy [.ref (ka S 0 0), .int p0, .ref (ka S 80 0)] (wc cy S I L R LP ++ wlo cy S G) (fun r w' => r = some (.int 1) ∧ ∃ w9, Pw w9 ∧ w' = w9 ++ wlo cy S G) := by
  refine ConH_of (by decide +kernel) (Nat.le_of_ble_eq_true rfl) ?_
  refine JG_eq (lv' := [(0, .ref (ka S 0 0)), (1, .int p0), (2, .ref (ka S 80 0))]) rfl rfl rfl ?_
  refine JG_aload_n 2 rfl dL_speakerOn_0 ?_
  refine JG_iconst (v := 0) (by decide) dL_speakerOn_1 ?_
  refine JG_aload_n 0 rfl dL_speakerOn_2 ?_
  refine JG_iload_n 1 rfl dL_speakerOn_3 ?_
  refine JG_callX7 (As := [.int p0]) (rest := [.int 0, .ref (ka S 80 0)]) [] (wlo cy S G) dL_speakerOn_4 hc rfl rfl lm_L_80 kc_yX7_speakerOn ki_yX7_speakerOn kv_yX7_speakerOn kd_yX7_speakerOn ⟨(by show d + 1 ≤ d + 1; exact Nat.le_refl _), (by show 8 + (2 + 11) + (40 * d + 100) ≤ 40 * (d + 1) + 100; omega)⟩ (by show 0 + mc ≤ mc; omega) (by show 0 + ms ≤ ms; omega) (Nat.le_of_ble_eq_true rfl) (fun _ _ h => h.elim) (fun E9 w9 h9 q => ?_)
  obtain ⟨rfl, hP⟩ := h9
  refine JX_catch [] 0 (fun _ _ _ _ _ _ _ _ _ _ _ h => h.1) rfl (by decide) (by decide) lk_L_20 (by decide) (fun j z hj hz => ?_) ?_
  · omega
  refine JG_eq (w' := w9 ++ wlo cy S G) rfl rfl rfl ?_
  refine JG_astore_n (lv' := [(0, .ref (ka S 0 0)), (1, .int p0), (2, .ref (ka S 80 0)), (3, .ref q)]) (by decide) rfl dL_speakerOn_12 ?_
  refine JG_iconst (v := 1) (by decide) dL_speakerOn_13 ?_
  exact JG_iretH dL_speakerOn_14 (⟨rfl, w9, hP, rfl⟩) (by omega) (by omega)

set_option maxRecDepth 20000 in
set_option maxHeartbeats 1000000 in
theorem w_speakerOn_2 {cy : Nat → ClassId} {S : Nat → Nat → Nat} {I : kI} {L : kL} {R : kRf} {LP : List Nat} {G : kL} {d mc ms : Nat} {p0 : Int32} {Pw : va_W → Prop} (hc : Con yX7_speakerOn cX7_speakerOn 2 (some .int) d mc ms cy [.ref (ka S 0 0), .int p0] (wc cy S I L R LP) kNo (fun E2 w2 => E2 = "java/util/NoSuchElementException" ∧ Pw w2)) : ConH [(0, 9, 12, 20), (0, 9, 15, 41)] yL_speakerOn cL_speakerOn 4 (some .int) (d + 1) mc ms cy [.ref (ka S 0 0), .int p0, .ref (ka S 80 0)] (wc cy S I L R LP ++ wlo cy S G) (fun r w' => r = some (.int 2) ∧ ∃ w9, Pw w9 ∧ w' = w9 ++ wlo cy S G) := by
  refine ConH_of (by decide +kernel) (Nat.le_of_ble_eq_true rfl) ?_
  refine JG_eq (lv' := [(0, .ref (ka S 0 0)), (1, .int p0), (2, .ref (ka S 80 0))]) rfl rfl rfl ?_
  refine JG_aload_n 2 rfl dL_speakerOn_0 ?_
  refine JG_iconst (v := 0) (by decide) dL_speakerOn_1 ?_
  refine JG_aload_n 0 rfl dL_speakerOn_2 ?_
  refine JG_iload_n 1 rfl dL_speakerOn_3 ?_
  refine JG_callX7 (As := [.int p0]) (rest := [.int 0, .ref (ka S 80 0)]) [] (wlo cy S G) dL_speakerOn_4 hc rfl rfl lm_L_80 kc_yX7_speakerOn ki_yX7_speakerOn kv_yX7_speakerOn kd_yX7_speakerOn ⟨(by show d + 1 ≤ d + 1; exact Nat.le_refl _), (by show 8 + (2 + 11) + (40 * d + 100) ≤ 40 * (d + 1) + 100; omega)⟩ (by show 0 + mc ≤ mc; omega) (by show 0 + ms ≤ ms; omega) (Nat.le_of_ble_eq_true rfl) (fun _ _ h => h.elim) (fun E9 w9 h9 q => ?_)
  obtain ⟨rfl, hP⟩ := h9
  refine JX_catch [] 1 (fun _ _ _ _ _ _ _ _ _ _ _ h => h.1) rfl (by decide) (by decide) lk_L_41 (by decide) (fun j z hj hz => ?_) ?_
  · have hj2 : j = 0 := by omega
    subst hj2
    cases hz
    exact ⟨by decide, _, lk_L_20, by decide⟩
  refine JG_eq (w' := w9 ++ wlo cy S G) rfl rfl rfl ?_
  refine JG_astore_n (lv' := [(0, .ref (ka S 0 0)), (1, .int p0), (2, .ref (ka S 80 0)), (3, .ref q)]) (by decide) rfl dL_speakerOn_15 ?_
  refine JG_iconst (v := 2) (by decide) dL_speakerOn_16 ?_
  exact JG_iretH dL_speakerOn_17 (⟨rfl, w9, hP, rfl⟩) (by omega) (by omega)

set_option maxRecDepth 20000 in
set_option maxHeartbeats 1000000 in
theorem w_inLine_s {cy : Nat → ClassId} {S : Nat → Nat → Nat} {I : kI} {L : kL} {R : kRf} {LP : List Nat} {G : kL} {d mc ms : Nat} {p0 : Int32} {Pw : va_W → Prop} {v : Int32}  (hc : Con yX7_inLine cX7_inLine 2 (some .int) d mc ms cy [.ref (ka S 0 0), .int p0] (wc cy S I L R LP) (fun r w2 => r = some (.int v) ∧ Pw w2) kF) : ConH [(0, 9, 12, 41)] yL_inLine cL_inLine 4 (some .int) (d + 1) mc ms cy [.ref (ka S 0 0), .int p0, .ref (ka S 80 0)] (wc cy S I L R LP ++ wlo cy S G) (fun r w' => r = some (.int 0) ∧ ∃ w9, Pw w9 ∧ w' = w9 ++ wlo cy S (ku G 80 0 0 v.toInt64)) := by
  refine ConH_of (by decide +kernel) (Nat.le_of_ble_eq_true rfl) ?_
  refine JG_eq (lv' := [(0, .ref (ka S 0 0)), (1, .int p0), (2, .ref (ka S 80 0))]) rfl rfl rfl ?_
  refine JG_aload_n 2 rfl dL_inLine_0 ?_
  refine JG_iconst (v := 0) (by decide) dL_inLine_1 ?_
  refine JG_aload_n 0 rfl dL_inLine_2 ?_
  refine JG_iload_n 1 rfl dL_inLine_3 ?_
  refine JG_callX7 (As := [.int p0]) (rest := [.int 0, .ref (ka S 80 0)]) [] (wlo cy S G) dL_inLine_4 hc rfl rfl lm_L_83 kc_yX7_inLine ki_yX7_inLine kv_yX7_inLine kd_yX7_inLine ⟨(by show d + 1 ≤ d + 1; exact Nat.le_refl _), (by show 8 + (2 + 11) + (40 * d + 100) ≤ 40 * (d + 1) + 100; omega)⟩ (by show 0 + mc ≤ mc; omega) (by show 0 + ms ≤ ms; omega) (Nat.le_of_ble_eq_true rfl) (fun r9 w9 h9 => ?_) (fun _ _ h => h.elim)
  obtain ⟨rfl, hP⟩ := h9
  refine JG_eq (w' := w9 ++ wlo cy S G) (st' := [.int v, .int 0, .ref (ka S 80 0)]) rfl rfl rfl ?_
  refine JG_i2l dL_inLine_7 ?_
  refine JG_lastO dL_inLine_8 ?_
  refine JG_goto 15 (by decide) dL_inLine_9 ?_
  refine JG_iconst (v := 0) (by decide) dL_inLine_15 ?_
  exact JG_iretH dL_inLine_16 (⟨rfl, w9, hP, rfl⟩) (by omega) (by omega)

set_option maxRecDepth 20000 in
set_option maxHeartbeats 1000000 in
theorem w_inLine_1 {cy : Nat → ClassId} {S : Nat → Nat → Nat} {I : kI} {L : kL} {R : kRf} {LP : List Nat} {G : kL} {d mc ms : Nat} {p0 : Int32} {Pw : va_W → Prop} (hc : Con yX7_inLine cX7_inLine 2 (some .int) d mc ms cy [.ref (ka S 0 0), .int p0] (wc cy S I L R LP) kNo (fun E2 w2 => E2 = "java/util/NoSuchElementException" ∧ Pw w2)) : ConH [(0, 9, 12, 41)] yL_inLine cL_inLine 4 (some .int) (d + 1) mc ms cy [.ref (ka S 0 0), .int p0, .ref (ka S 80 0)] (wc cy S I L R LP ++ wlo cy S G) (fun r w' => r = some (.int 1) ∧ ∃ w9, Pw w9 ∧ w' = w9 ++ wlo cy S G) := by
  refine ConH_of (by decide +kernel) (Nat.le_of_ble_eq_true rfl) ?_
  refine JG_eq (lv' := [(0, .ref (ka S 0 0)), (1, .int p0), (2, .ref (ka S 80 0))]) rfl rfl rfl ?_
  refine JG_aload_n 2 rfl dL_inLine_0 ?_
  refine JG_iconst (v := 0) (by decide) dL_inLine_1 ?_
  refine JG_aload_n 0 rfl dL_inLine_2 ?_
  refine JG_iload_n 1 rfl dL_inLine_3 ?_
  refine JG_callX7 (As := [.int p0]) (rest := [.int 0, .ref (ka S 80 0)]) [] (wlo cy S G) dL_inLine_4 hc rfl rfl lm_L_83 kc_yX7_inLine ki_yX7_inLine kv_yX7_inLine kd_yX7_inLine ⟨(by show d + 1 ≤ d + 1; exact Nat.le_refl _), (by show 8 + (2 + 11) + (40 * d + 100) ≤ 40 * (d + 1) + 100; omega)⟩ (by show 0 + mc ≤ mc; omega) (by show 0 + ms ≤ ms; omega) (Nat.le_of_ble_eq_true rfl) (fun _ _ h => h.elim) (fun E9 w9 h9 q => ?_)
  obtain ⟨rfl, hP⟩ := h9
  refine JX_catch [] 0 (fun _ _ _ _ _ _ _ _ _ _ _ h => h.1) rfl (by decide) (by decide) lk_L_41 (by decide) (fun j z hj hz => ?_) ?_
  · omega
  refine JG_eq (w' := w9 ++ wlo cy S G) rfl rfl rfl ?_
  refine JG_astore_n (lv' := [(0, .ref (ka S 0 0)), (1, .int p0), (2, .ref (ka S 80 0)), (3, .ref q)]) (by decide) rfl dL_inLine_12 ?_
  refine JG_iconst (v := 1) (by decide) dL_inLine_13 ?_
  exact JG_iretH dL_inLine_14 (⟨rfl, w9, hP, rfl⟩) (by omega) (by omega)

set_option maxRecDepth 20000 in
set_option maxHeartbeats 1000000 in
theorem w_inLineByCounting_s {cy : Nat → ClassId} {S : Nat → Nat → Nat} {I : kI} {L : kL} {R : kRf} {LP : List Nat} {G : kL} {d mc ms : Nat} {p0 : Int32} {Pw : va_W → Prop} {v : Int32}  (hc : Con yX7_inLineByCounting cX7_inLineByCounting 2 (some .int) d mc ms cy [.ref (ka S 0 0), .int p0] (wc cy S I L R LP) (fun r w2 => r = some (.int v) ∧ Pw w2) kF) : ConH [(0, 9, 12, 41)] yL_inLineByCounting cL_inLineByCounting 4 (some .int) (d + 1) mc ms cy [.ref (ka S 0 0), .int p0, .ref (ka S 80 0)] (wc cy S I L R LP ++ wlo cy S G) (fun r w' => r = some (.int 0) ∧ ∃ w9, Pw w9 ∧ w' = w9 ++ wlo cy S (ku G 80 0 0 v.toInt64)) := by
  refine ConH_of (by decide +kernel) (Nat.le_of_ble_eq_true rfl) ?_
  refine JG_eq (lv' := [(0, .ref (ka S 0 0)), (1, .int p0), (2, .ref (ka S 80 0))]) rfl rfl rfl ?_
  refine JG_aload_n 2 rfl dL_inLineByCounting_0 ?_
  refine JG_iconst (v := 0) (by decide) dL_inLineByCounting_1 ?_
  refine JG_aload_n 0 rfl dL_inLineByCounting_2 ?_
  refine JG_iload_n 1 rfl dL_inLineByCounting_3 ?_
  refine JG_callX7 (As := [.int p0]) (rest := [.int 0, .ref (ka S 80 0)]) [] (wlo cy S G) dL_inLineByCounting_4 hc rfl rfl lm_L_86 kc_yX7_inLineByCounting ki_yX7_inLineByCounting kv_yX7_inLineByCounting kd_yX7_inLineByCounting ⟨(by show d + 1 ≤ d + 1; exact Nat.le_refl _), (by show 8 + (2 + 11) + (40 * d + 100) ≤ 40 * (d + 1) + 100; omega)⟩ (by show 0 + mc ≤ mc; omega) (by show 0 + ms ≤ ms; omega) (Nat.le_of_ble_eq_true rfl) (fun r9 w9 h9 => ?_) (fun _ _ h => h.elim)
  obtain ⟨rfl, hP⟩ := h9
  refine JG_eq (w' := w9 ++ wlo cy S G) (st' := [.int v, .int 0, .ref (ka S 80 0)]) rfl rfl rfl ?_
  refine JG_i2l dL_inLineByCounting_7 ?_
  refine JG_lastO dL_inLineByCounting_8 ?_
  refine JG_goto 15 (by decide) dL_inLineByCounting_9 ?_
  refine JG_iconst (v := 0) (by decide) dL_inLineByCounting_15 ?_
  exact JG_iretH dL_inLineByCounting_16 (⟨rfl, w9, hP, rfl⟩) (by omega) (by omega)

set_option maxRecDepth 20000 in
set_option maxHeartbeats 1000000 in
theorem w_inLineByCounting_1 {cy : Nat → ClassId} {S : Nat → Nat → Nat} {I : kI} {L : kL} {R : kRf} {LP : List Nat} {G : kL} {d mc ms : Nat} {p0 : Int32} {Pw : va_W → Prop} (hc : Con yX7_inLineByCounting cX7_inLineByCounting 2 (some .int) d mc ms cy [.ref (ka S 0 0), .int p0] (wc cy S I L R LP) kNo (fun E2 w2 => E2 = "java/util/NoSuchElementException" ∧ Pw w2)) : ConH [(0, 9, 12, 41)] yL_inLineByCounting cL_inLineByCounting 4 (some .int) (d + 1) mc ms cy [.ref (ka S 0 0), .int p0, .ref (ka S 80 0)] (wc cy S I L R LP ++ wlo cy S G) (fun r w' => r = some (.int 1) ∧ ∃ w9, Pw w9 ∧ w' = w9 ++ wlo cy S G) := by
  refine ConH_of (by decide +kernel) (Nat.le_of_ble_eq_true rfl) ?_
  refine JG_eq (lv' := [(0, .ref (ka S 0 0)), (1, .int p0), (2, .ref (ka S 80 0))]) rfl rfl rfl ?_
  refine JG_aload_n 2 rfl dL_inLineByCounting_0 ?_
  refine JG_iconst (v := 0) (by decide) dL_inLineByCounting_1 ?_
  refine JG_aload_n 0 rfl dL_inLineByCounting_2 ?_
  refine JG_iload_n 1 rfl dL_inLineByCounting_3 ?_
  refine JG_callX7 (As := [.int p0]) (rest := [.int 0, .ref (ka S 80 0)]) [] (wlo cy S G) dL_inLineByCounting_4 hc rfl rfl lm_L_86 kc_yX7_inLineByCounting ki_yX7_inLineByCounting kv_yX7_inLineByCounting kd_yX7_inLineByCounting ⟨(by show d + 1 ≤ d + 1; exact Nat.le_refl _), (by show 8 + (2 + 11) + (40 * d + 100) ≤ 40 * (d + 1) + 100; omega)⟩ (by show 0 + mc ≤ mc; omega) (by show 0 + ms ≤ ms; omega) (Nat.le_of_ble_eq_true rfl) (fun _ _ h => h.elim) (fun E9 w9 h9 q => ?_)
  obtain ⟨rfl, hP⟩ := h9
  refine JX_catch [] 0 (fun _ _ _ _ _ _ _ _ _ _ _ h => h.1) rfl (by decide) (by decide) lk_L_41 (by decide) (fun j z hj hz => ?_) ?_
  · omega
  refine JG_eq (w' := w9 ++ wlo cy S G) rfl rfl rfl ?_
  refine JG_astore_n (lv' := [(0, .ref (ka S 0 0)), (1, .int p0), (2, .ref (ka S 80 0)), (3, .ref q)]) (by decide) rfl dL_inLineByCounting_12 ?_
  refine JG_iconst (v := 1) (by decide) dL_inLineByCounting_13 ?_
  exact JG_iretH dL_inLineByCounting_14 (⟨rfl, w9, hP, rfl⟩) (by omega) (by omega)

set_option maxRecDepth 20000 in
set_option maxHeartbeats 1000000 in
theorem w_pass_s {cy : Nat → ClassId} {S : Nat → Nat → Nat} {I : kI} {L : kL} {R : kRf} {LP : List Nat} {G : kL} {d mc ms : Nat} {p0 : Int32} {Pw : va_W → Prop} {v : Int32}  (hc : Con yX7_pass cX7_pass 4 (some .int) d mc ms cy [.ref (ka S 0 0), .int p0] (wc cy S I L R LP) (fun r w2 => r = some (.int v) ∧ Pw w2) kF) : ConH [(0, 9, 12, 13)] yL_pass cL_pass 4 (some .int) (d + 1) mc ms cy [.ref (ka S 0 0), .int p0, .ref (ka S 80 0)] (wc cy S I L R LP ++ wlo cy S G) (fun r w' => r = some (.int 0) ∧ ∃ w9, Pw w9 ∧ w' = w9 ++ wlo cy S (ku G 80 0 0 v.toInt64)) := by
  refine ConH_of (by decide +kernel) (Nat.le_of_ble_eq_true rfl) ?_
  refine JG_eq (lv' := [(0, .ref (ka S 0 0)), (1, .int p0), (2, .ref (ka S 80 0))]) rfl rfl rfl ?_
  refine JG_aload_n 2 rfl dL_pass_0 ?_
  refine JG_iconst (v := 0) (by decide) dL_pass_1 ?_
  refine JG_aload_n 0 rfl dL_pass_2 ?_
  refine JG_iload_n 1 rfl dL_pass_3 ?_
  refine JG_callX7 (As := [.int p0]) (rest := [.int 0, .ref (ka S 80 0)]) [] (wlo cy S G) dL_pass_4 hc rfl rfl lm_L_89 kc_yX7_pass ki_yX7_pass kv_yX7_pass kd_yX7_pass ⟨(by show d + 1 ≤ d + 1; exact Nat.le_refl _), (by show 8 + (4 + 11) + (40 * d + 100) ≤ 40 * (d + 1) + 100; omega)⟩ (by show 0 + mc ≤ mc; omega) (by show 0 + ms ≤ ms; omega) (Nat.le_of_ble_eq_true rfl) (fun r9 w9 h9 => ?_) (fun _ _ h => h.elim)
  obtain ⟨rfl, hP⟩ := h9
  refine JG_eq (w' := w9 ++ wlo cy S G) (st' := [.int v, .int 0, .ref (ka S 80 0)]) rfl rfl rfl ?_
  refine JG_i2l dL_pass_7 ?_
  refine JG_lastO dL_pass_8 ?_
  refine JG_goto 15 (by decide) dL_pass_9 ?_
  refine JG_iconst (v := 0) (by decide) dL_pass_15 ?_
  exact JG_iretH dL_pass_16 (⟨rfl, w9, hP, rfl⟩) (by omega) (by omega)

set_option maxRecDepth 20000 in
set_option maxHeartbeats 1000000 in
theorem w_pass_1 {cy : Nat → ClassId} {S : Nat → Nat → Nat} {I : kI} {L : kL} {R : kRf} {LP : List Nat} {G : kL} {d mc ms : Nat} {p0 : Int32} {Pw : va_W → Prop} (hc : Con yX7_pass cX7_pass 4 (some .int) d mc ms cy [.ref (ka S 0 0), .int p0] (wc cy S I L R LP) kNo (fun E2 w2 => E2 = "java/lang/IllegalArgumentException" ∧ Pw w2)) : ConH [(0, 9, 12, 13)] yL_pass cL_pass 4 (some .int) (d + 1) mc ms cy [.ref (ka S 0 0), .int p0, .ref (ka S 80 0)] (wc cy S I L R LP ++ wlo cy S G) (fun r w' => r = some (.int 1) ∧ ∃ w9, Pw w9 ∧ w' = w9 ++ wlo cy S G) := by
  refine ConH_of (by decide +kernel) (Nat.le_of_ble_eq_true rfl) ?_
  refine JG_eq (lv' := [(0, .ref (ka S 0 0)), (1, .int p0), (2, .ref (ka S 80 0))]) rfl rfl rfl ?_
  refine JG_aload_n 2 rfl dL_pass_0 ?_
  refine JG_iconst (v := 0) (by decide) dL_pass_1 ?_
  refine JG_aload_n 0 rfl dL_pass_2 ?_
  refine JG_iload_n 1 rfl dL_pass_3 ?_
  refine JG_callX7 (As := [.int p0]) (rest := [.int 0, .ref (ka S 80 0)]) [] (wlo cy S G) dL_pass_4 hc rfl rfl lm_L_89 kc_yX7_pass ki_yX7_pass kv_yX7_pass kd_yX7_pass ⟨(by show d + 1 ≤ d + 1; exact Nat.le_refl _), (by show 8 + (4 + 11) + (40 * d + 100) ≤ 40 * (d + 1) + 100; omega)⟩ (by show 0 + mc ≤ mc; omega) (by show 0 + ms ≤ ms; omega) (Nat.le_of_ble_eq_true rfl) (fun _ _ h => h.elim) (fun E9 w9 h9 q => ?_)
  obtain ⟨rfl, hP⟩ := h9
  refine JX_catch [] 0 (fun _ _ _ _ _ _ _ _ _ _ _ h => h.1) rfl (by decide) (by decide) lk_L_13 (by decide) (fun j z hj hz => ?_) ?_
  · omega
  refine JG_eq (w' := w9 ++ wlo cy S G) rfl rfl rfl ?_
  refine JG_astore_n (lv' := [(0, .ref (ka S 0 0)), (1, .int p0), (2, .ref (ka S 80 0)), (3, .ref q)]) (by decide) rfl dL_pass_12 ?_
  refine JG_iconst (v := 1) (by decide) dL_pass_13 ?_
  exact JG_iretH dL_pass_14 (⟨rfl, w9, hP, rfl⟩) (by omega) (by omega)

set_option maxRecDepth 20000 in
set_option maxHeartbeats 1000000 in
theorem w_setWatch_s {cy : Nat → ClassId} {S : Nat → Nat → Nat} {I : kI} {L : kL} {R : kRf} {LP : List Nat} {G : kL} {d mc ms : Nat} {p0 p1 : Int32} {Pw : va_W → Prop} {v : Int32}  (hc : Con yX7_setWatch cX7_setWatch 5 (some .int) d mc ms cy [.ref (ka S 0 0), .int p0, .int p1] (wc cy S I L R LP) (fun r w2 => r = some (.int v) ∧ Pw w2) kF) : ConH [(0, 10, 13, 20), (0, 10, 17, 13)] yL_setWatch cL_setWatch 5 (some .int) (d + 1) mc ms cy [.ref (ka S 0 0), .int p0, .int p1, .ref (ka S 80 0)] (wc cy S I L R LP ++ wlo cy S G) (fun r w' => r = some (.int 0) ∧ ∃ w9, Pw w9 ∧ w' = w9 ++ wlo cy S (ku G 80 0 0 v.toInt64)) := by
  refine ConH_of (by decide +kernel) (Nat.le_of_ble_eq_true rfl) ?_
  refine JG_eq (lv' := [(0, .ref (ka S 0 0)), (1, .int p0), (2, .int p1), (3, .ref (ka S 80 0))]) rfl rfl rfl ?_
  refine JG_aload_n 3 rfl dL_setWatch_0 ?_
  refine JG_iconst (v := 0) (by decide) dL_setWatch_1 ?_
  refine JG_aload_n 0 rfl dL_setWatch_2 ?_
  refine JG_iload_n 1 rfl dL_setWatch_3 ?_
  refine JG_iload_n 2 rfl dL_setWatch_4 ?_
  refine JG_callX7 (As := [.int p0, .int p1]) (rest := [.int 0, .ref (ka S 80 0)]) [] (wlo cy S G) dL_setWatch_5 hc rfl rfl lm_L_92 kc_yX7_setWatch ki_yX7_setWatch kv_yX7_setWatch kd_yX7_setWatch ⟨(by show d + 1 ≤ d + 1; exact Nat.le_refl _), (by show 8 + (5 + 11) + (40 * d + 100) ≤ 40 * (d + 1) + 100; omega)⟩ (by show 0 + mc ≤ mc; omega) (by show 0 + ms ≤ ms; omega) (Nat.le_of_ble_eq_true rfl) (fun r9 w9 h9 => ?_) (fun _ _ h => h.elim)
  obtain ⟨rfl, hP⟩ := h9
  refine JG_eq (w' := w9 ++ wlo cy S G) (st' := [.int v, .int 0, .ref (ka S 80 0)]) rfl rfl rfl ?_
  refine JG_i2l dL_setWatch_8 ?_
  refine JG_lastO dL_setWatch_9 ?_
  refine JG_goto 21 (by decide) dL_setWatch_10 ?_
  refine JG_iconst (v := 0) (by decide) dL_setWatch_21 ?_
  exact JG_iretH dL_setWatch_22 (⟨rfl, w9, hP, rfl⟩) (by omega) (by omega)

set_option maxRecDepth 20000 in
set_option maxHeartbeats 1000000 in
theorem w_setWatch_1 {cy : Nat → ClassId} {S : Nat → Nat → Nat} {I : kI} {L : kL} {R : kRf} {LP : List Nat} {G : kL} {d mc ms : Nat} {p0 p1 : Int32} {Pw : va_W → Prop} (hc : Con yX7_setWatch cX7_setWatch 5 (some .int) d mc ms cy [.ref (ka S 0 0), .int p0, .int p1] (wc cy S I L R LP) kNo (fun E2 w2 => E2 = "java/lang/IndexOutOfBoundsException" ∧ Pw w2)) : ConH [(0, 10, 13, 20), (0, 10, 17, 13)] yL_setWatch cL_setWatch 5 (some .int) (d + 1) mc ms cy [.ref (ka S 0 0), .int p0, .int p1, .ref (ka S 80 0)] (wc cy S I L R LP ++ wlo cy S G) (fun r w' => r = some (.int 1) ∧ ∃ w9, Pw w9 ∧ w' = w9 ++ wlo cy S G) := by
  refine ConH_of (by decide +kernel) (Nat.le_of_ble_eq_true rfl) ?_
  refine JG_eq (lv' := [(0, .ref (ka S 0 0)), (1, .int p0), (2, .int p1), (3, .ref (ka S 80 0))]) rfl rfl rfl ?_
  refine JG_aload_n 3 rfl dL_setWatch_0 ?_
  refine JG_iconst (v := 0) (by decide) dL_setWatch_1 ?_
  refine JG_aload_n 0 rfl dL_setWatch_2 ?_
  refine JG_iload_n 1 rfl dL_setWatch_3 ?_
  refine JG_iload_n 2 rfl dL_setWatch_4 ?_
  refine JG_callX7 (As := [.int p0, .int p1]) (rest := [.int 0, .ref (ka S 80 0)]) [] (wlo cy S G) dL_setWatch_5 hc rfl rfl lm_L_92 kc_yX7_setWatch ki_yX7_setWatch kv_yX7_setWatch kd_yX7_setWatch ⟨(by show d + 1 ≤ d + 1; exact Nat.le_refl _), (by show 8 + (5 + 11) + (40 * d + 100) ≤ 40 * (d + 1) + 100; omega)⟩ (by show 0 + mc ≤ mc; omega) (by show 0 + ms ≤ ms; omega) (Nat.le_of_ble_eq_true rfl) (fun _ _ h => h.elim) (fun E9 w9 h9 q => ?_)
  obtain ⟨rfl, hP⟩ := h9
  refine JX_catch [] 0 (fun _ _ _ _ _ _ _ _ _ _ _ h => h.1) rfl (by decide) (by decide) lk_L_20 (by decide) (fun j z hj hz => ?_) ?_
  · omega
  refine JG_eq (w' := w9 ++ wlo cy S G) rfl rfl rfl ?_
  refine JG_astore (lv' := [(0, .ref (ka S 0 0)), (1, .int p0), (2, .int p1), (3, .ref (ka S 80 0)), (4, .ref q)]) (by decide) rfl dL_setWatch_13 ?_
  refine JG_iconst (v := 1) (by decide) dL_setWatch_15 ?_
  exact JG_iretH dL_setWatch_16 (⟨rfl, w9, hP, rfl⟩) (by omega) (by omega)

set_option maxRecDepth 20000 in
set_option maxHeartbeats 1000000 in
theorem w_setWatch_2 {cy : Nat → ClassId} {S : Nat → Nat → Nat} {I : kI} {L : kL} {R : kRf} {LP : List Nat} {G : kL} {d mc ms : Nat} {p0 p1 : Int32} {Pw : va_W → Prop} (hc : Con yX7_setWatch cX7_setWatch 5 (some .int) d mc ms cy [.ref (ka S 0 0), .int p0, .int p1] (wc cy S I L R LP) kNo (fun E2 w2 => E2 = "java/lang/IllegalArgumentException" ∧ Pw w2)) : ConH [(0, 10, 13, 20), (0, 10, 17, 13)] yL_setWatch cL_setWatch 5 (some .int) (d + 1) mc ms cy [.ref (ka S 0 0), .int p0, .int p1, .ref (ka S 80 0)] (wc cy S I L R LP ++ wlo cy S G) (fun r w' => r = some (.int 2) ∧ ∃ w9, Pw w9 ∧ w' = w9 ++ wlo cy S G) := by
  refine ConH_of (by decide +kernel) (Nat.le_of_ble_eq_true rfl) ?_
  refine JG_eq (lv' := [(0, .ref (ka S 0 0)), (1, .int p0), (2, .int p1), (3, .ref (ka S 80 0))]) rfl rfl rfl ?_
  refine JG_aload_n 3 rfl dL_setWatch_0 ?_
  refine JG_iconst (v := 0) (by decide) dL_setWatch_1 ?_
  refine JG_aload_n 0 rfl dL_setWatch_2 ?_
  refine JG_iload_n 1 rfl dL_setWatch_3 ?_
  refine JG_iload_n 2 rfl dL_setWatch_4 ?_
  refine JG_callX7 (As := [.int p0, .int p1]) (rest := [.int 0, .ref (ka S 80 0)]) [] (wlo cy S G) dL_setWatch_5 hc rfl rfl lm_L_92 kc_yX7_setWatch ki_yX7_setWatch kv_yX7_setWatch kd_yX7_setWatch ⟨(by show d + 1 ≤ d + 1; exact Nat.le_refl _), (by show 8 + (5 + 11) + (40 * d + 100) ≤ 40 * (d + 1) + 100; omega)⟩ (by show 0 + mc ≤ mc; omega) (by show 0 + ms ≤ ms; omega) (Nat.le_of_ble_eq_true rfl) (fun _ _ h => h.elim) (fun E9 w9 h9 q => ?_)
  obtain ⟨rfl, hP⟩ := h9
  refine JX_catch [] 1 (fun _ _ _ _ _ _ _ _ _ _ _ h => h.1) rfl (by decide) (by decide) lk_L_13 (by decide) (fun j z hj hz => ?_) ?_
  · have hj2 : j = 0 := by omega
    subst hj2
    cases hz
    exact ⟨by decide, _, lk_L_20, by decide⟩
  refine JG_eq (w' := w9 ++ wlo cy S G) rfl rfl rfl ?_
  refine JG_astore (lv' := [(0, .ref (ka S 0 0)), (1, .int p0), (2, .int p1), (3, .ref (ka S 80 0)), (4, .ref q)]) (by decide) rfl dL_setWatch_17 ?_
  refine JG_iconst (v := 2) (by decide) dL_setWatch_19 ?_
  exact JG_iretH dL_setWatch_20 (⟨rfl, w9, hP, rfl⟩) (by omega) (by omega)

set_option maxRecDepth 20000 in
set_option maxHeartbeats 1000000 in
theorem w_report_s {cy : Nat → ClassId} {S : Nat → Nat → Nat} {I : kI} {L : kL} {R : kRf} {LP : List Nat} {G : kL} {d mc ms : Nat} {p0 : Int32} {Pw : va_W → Prop} {v : Int32}  (hc : Con yX7_report cX7_report 4 (some .int) d mc ms cy [.ref (ka S 0 0), .int p0] (wc cy S I L R LP) (fun r w2 => r = some (.int v) ∧ Pw w2) kF) : ConH [(0, 9, 12, 20), (0, 9, 15, 15)] yL_report cL_report 4 (some .int) (d + 1) mc ms cy [.ref (ka S 0 0), .int p0, .ref (ka S 80 0)] (wc cy S I L R LP ++ wlo cy S G) (fun r w' => r = some (.int 0) ∧ ∃ w9, Pw w9 ∧ w' = w9 ++ wlo cy S (ku G 80 0 0 v.toInt64)) := by
  refine ConH_of (by decide +kernel) (Nat.le_of_ble_eq_true rfl) ?_
  refine JG_eq (lv' := [(0, .ref (ka S 0 0)), (1, .int p0), (2, .ref (ka S 80 0))]) rfl rfl rfl ?_
  refine JG_aload_n 2 rfl dL_report_0 ?_
  refine JG_iconst (v := 0) (by decide) dL_report_1 ?_
  refine JG_aload_n 0 rfl dL_report_2 ?_
  refine JG_iload_n 1 rfl dL_report_3 ?_
  refine JG_callX7 (As := [.int p0]) (rest := [.int 0, .ref (ka S 80 0)]) [] (wlo cy S G) dL_report_4 hc rfl rfl lm_L_95 kc_yX7_report ki_yX7_report kv_yX7_report kd_yX7_report ⟨(by show d + 1 ≤ d + 1; exact Nat.le_refl _), (by show 8 + (4 + 11) + (40 * d + 100) ≤ 40 * (d + 1) + 100; omega)⟩ (by show 0 + mc ≤ mc; omega) (by show 0 + ms ≤ ms; omega) (Nat.le_of_ble_eq_true rfl) (fun r9 w9 h9 => ?_) (fun _ _ h => h.elim)
  obtain ⟨rfl, hP⟩ := h9
  refine JG_eq (w' := w9 ++ wlo cy S G) (st' := [.int v, .int 0, .ref (ka S 80 0)]) rfl rfl rfl ?_
  refine JG_i2l dL_report_7 ?_
  refine JG_lastO dL_report_8 ?_
  refine JG_goto 18 (by decide) dL_report_9 ?_
  refine JG_iconst (v := 0) (by decide) dL_report_18 ?_
  exact JG_iretH dL_report_19 (⟨rfl, w9, hP, rfl⟩) (by omega) (by omega)

set_option maxRecDepth 20000 in
set_option maxHeartbeats 1000000 in
theorem w_report_1 {cy : Nat → ClassId} {S : Nat → Nat → Nat} {I : kI} {L : kL} {R : kRf} {LP : List Nat} {G : kL} {d mc ms : Nat} {p0 : Int32} {Pw : va_W → Prop} (hc : Con yX7_report cX7_report 4 (some .int) d mc ms cy [.ref (ka S 0 0), .int p0] (wc cy S I L R LP) kNo (fun E2 w2 => E2 = "java/lang/IndexOutOfBoundsException" ∧ Pw w2)) : ConH [(0, 9, 12, 20), (0, 9, 15, 15)] yL_report cL_report 4 (some .int) (d + 1) mc ms cy [.ref (ka S 0 0), .int p0, .ref (ka S 80 0)] (wc cy S I L R LP ++ wlo cy S G) (fun r w' => r = some (.int 1) ∧ ∃ w9, Pw w9 ∧ w' = w9 ++ wlo cy S G) := by
  refine ConH_of (by decide +kernel) (Nat.le_of_ble_eq_true rfl) ?_
  refine JG_eq (lv' := [(0, .ref (ka S 0 0)), (1, .int p0), (2, .ref (ka S 80 0))]) rfl rfl rfl ?_
  refine JG_aload_n 2 rfl dL_report_0 ?_
  refine JG_iconst (v := 0) (by decide) dL_report_1 ?_
  refine JG_aload_n 0 rfl dL_report_2 ?_
  refine JG_iload_n 1 rfl dL_report_3 ?_
  refine JG_callX7 (As := [.int p0]) (rest := [.int 0, .ref (ka S 80 0)]) [] (wlo cy S G) dL_report_4 hc rfl rfl lm_L_95 kc_yX7_report ki_yX7_report kv_yX7_report kd_yX7_report ⟨(by show d + 1 ≤ d + 1; exact Nat.le_refl _), (by show 8 + (4 + 11) + (40 * d + 100) ≤ 40 * (d + 1) + 100; omega)⟩ (by show 0 + mc ≤ mc; omega) (by show 0 + ms ≤ ms; omega) (Nat.le_of_ble_eq_true rfl) (fun _ _ h => h.elim) (fun E9 w9 h9 q => ?_)
  obtain ⟨rfl, hP⟩ := h9
  refine JX_catch [] 0 (fun _ _ _ _ _ _ _ _ _ _ _ h => h.1) rfl (by decide) (by decide) lk_L_20 (by decide) (fun j z hj hz => ?_) ?_
  · omega
  refine JG_eq (w' := w9 ++ wlo cy S G) rfl rfl rfl ?_
  refine JG_astore_n (lv' := [(0, .ref (ka S 0 0)), (1, .int p0), (2, .ref (ka S 80 0)), (3, .ref q)]) (by decide) rfl dL_report_12 ?_
  refine JG_iconst (v := 1) (by decide) dL_report_13 ?_
  exact JG_iretH dL_report_14 (⟨rfl, w9, hP, rfl⟩) (by omega) (by omega)

set_option maxRecDepth 20000 in
set_option maxHeartbeats 1000000 in
theorem w_report_2 {cy : Nat → ClassId} {S : Nat → Nat → Nat} {I : kI} {L : kL} {R : kRf} {LP : List Nat} {G : kL} {d mc ms : Nat} {p0 : Int32} {Pw : va_W → Prop} (hc : Con yX7_report cX7_report 4 (some .int) d mc ms cy [.ref (ka S 0 0), .int p0] (wc cy S I L R LP) kNo (fun E2 w2 => E2 = "java/lang/IllegalStateException" ∧ Pw w2)) : ConH [(0, 9, 12, 20), (0, 9, 15, 15)] yL_report cL_report 4 (some .int) (d + 1) mc ms cy [.ref (ka S 0 0), .int p0, .ref (ka S 80 0)] (wc cy S I L R LP ++ wlo cy S G) (fun r w' => r = some (.int 2) ∧ ∃ w9, Pw w9 ∧ w' = w9 ++ wlo cy S G) := by
  refine ConH_of (by decide +kernel) (Nat.le_of_ble_eq_true rfl) ?_
  refine JG_eq (lv' := [(0, .ref (ka S 0 0)), (1, .int p0), (2, .ref (ka S 80 0))]) rfl rfl rfl ?_
  refine JG_aload_n 2 rfl dL_report_0 ?_
  refine JG_iconst (v := 0) (by decide) dL_report_1 ?_
  refine JG_aload_n 0 rfl dL_report_2 ?_
  refine JG_iload_n 1 rfl dL_report_3 ?_
  refine JG_callX7 (As := [.int p0]) (rest := [.int 0, .ref (ka S 80 0)]) [] (wlo cy S G) dL_report_4 hc rfl rfl lm_L_95 kc_yX7_report ki_yX7_report kv_yX7_report kd_yX7_report ⟨(by show d + 1 ≤ d + 1; exact Nat.le_refl _), (by show 8 + (4 + 11) + (40 * d + 100) ≤ 40 * (d + 1) + 100; omega)⟩ (by show 0 + mc ≤ mc; omega) (by show 0 + ms ≤ ms; omega) (Nat.le_of_ble_eq_true rfl) (fun _ _ h => h.elim) (fun E9 w9 h9 q => ?_)
  obtain ⟨rfl, hP⟩ := h9
  refine JX_catch [] 1 (fun _ _ _ _ _ _ _ _ _ _ _ h => h.1) rfl (by decide) (by decide) lk_L_15 (by decide) (fun j z hj hz => ?_) ?_
  · have hj2 : j = 0 := by omega
    subst hj2
    cases hz
    exact ⟨by decide, _, lk_L_20, by decide⟩
  refine JG_eq (w' := w9 ++ wlo cy S G) rfl rfl rfl ?_
  refine JG_astore_n (lv' := [(0, .ref (ka S 0 0)), (1, .int p0), (2, .ref (ka S 80 0)), (3, .ref q)]) (by decide) rfl dL_report_15 ?_
  refine JG_iconst (v := 2) (by decide) dL_report_16 ?_
  exact JG_iretH dL_report_17 (⟨rfl, w9, hP, rfl⟩) (by omega) (by omega)

set_option maxRecDepth 20000 in
set_option maxHeartbeats 1000000 in
theorem w_sinceReport_s {cy : Nat → ClassId} {S : Nat → Nat → Nat} {I : kI} {L : kL} {R : kRf} {LP : List Nat} {G : kL} {d mc ms : Nat} {p0 : Int32} {Pw : va_W → Prop} {v : Int32}  (hc : Con yX7_sinceReport cX7_sinceReport 3 (some .int) d mc ms cy [.ref (ka S 0 0), .int p0] (wc cy S I L R LP) (fun r w2 => r = some (.int v) ∧ Pw w2) kF) : ConH [(0, 9, 12, 20), (0, 9, 15, 15)] yL_sinceReport cL_sinceReport 4 (some .int) (d + 1) mc ms cy [.ref (ka S 0 0), .int p0, .ref (ka S 80 0)] (wc cy S I L R LP ++ wlo cy S G) (fun r w' => r = some (.int 0) ∧ ∃ w9, Pw w9 ∧ w' = w9 ++ wlo cy S (ku G 80 0 0 v.toInt64)) := by
  refine ConH_of (by decide +kernel) (Nat.le_of_ble_eq_true rfl) ?_
  refine JG_eq (lv' := [(0, .ref (ka S 0 0)), (1, .int p0), (2, .ref (ka S 80 0))]) rfl rfl rfl ?_
  refine JG_aload_n 2 rfl dL_sinceReport_0 ?_
  refine JG_iconst (v := 0) (by decide) dL_sinceReport_1 ?_
  refine JG_aload_n 0 rfl dL_sinceReport_2 ?_
  refine JG_iload_n 1 rfl dL_sinceReport_3 ?_
  refine JG_callX7 (As := [.int p0]) (rest := [.int 0, .ref (ka S 80 0)]) [] (wlo cy S G) dL_sinceReport_4 hc rfl rfl lm_L_98 kc_yX7_sinceReport ki_yX7_sinceReport kv_yX7_sinceReport kd_yX7_sinceReport ⟨(by show d + 1 ≤ d + 1; exact Nat.le_refl _), (by show 8 + (3 + 11) + (40 * d + 100) ≤ 40 * (d + 1) + 100; omega)⟩ (by show 0 + mc ≤ mc; omega) (by show 0 + ms ≤ ms; omega) (Nat.le_of_ble_eq_true rfl) (fun r9 w9 h9 => ?_) (fun _ _ h => h.elim)
  obtain ⟨rfl, hP⟩ := h9
  refine JG_eq (w' := w9 ++ wlo cy S G) (st' := [.int v, .int 0, .ref (ka S 80 0)]) rfl rfl rfl ?_
  refine JG_i2l dL_sinceReport_7 ?_
  refine JG_lastO dL_sinceReport_8 ?_
  refine JG_goto 18 (by decide) dL_sinceReport_9 ?_
  refine JG_iconst (v := 0) (by decide) dL_sinceReport_18 ?_
  exact JG_iretH dL_sinceReport_19 (⟨rfl, w9, hP, rfl⟩) (by omega) (by omega)

set_option maxRecDepth 20000 in
set_option maxHeartbeats 1000000 in
theorem w_sinceReport_1 {cy : Nat → ClassId} {S : Nat → Nat → Nat} {I : kI} {L : kL} {R : kRf} {LP : List Nat} {G : kL} {d mc ms : Nat} {p0 : Int32} {Pw : va_W → Prop} (hc : Con yX7_sinceReport cX7_sinceReport 3 (some .int) d mc ms cy [.ref (ka S 0 0), .int p0] (wc cy S I L R LP) kNo (fun E2 w2 => E2 = "java/lang/IndexOutOfBoundsException" ∧ Pw w2)) : ConH [(0, 9, 12, 20), (0, 9, 15, 15)] yL_sinceReport cL_sinceReport 4 (some .int) (d + 1) mc ms cy [.ref (ka S 0 0), .int p0, .ref (ka S 80 0)] (wc cy S I L R LP ++ wlo cy S G) (fun r w' => r = some (.int 1) ∧ ∃ w9, Pw w9 ∧ w' = w9 ++ wlo cy S G) := by
  refine ConH_of (by decide +kernel) (Nat.le_of_ble_eq_true rfl) ?_
  refine JG_eq (lv' := [(0, .ref (ka S 0 0)), (1, .int p0), (2, .ref (ka S 80 0))]) rfl rfl rfl ?_
  refine JG_aload_n 2 rfl dL_sinceReport_0 ?_
  refine JG_iconst (v := 0) (by decide) dL_sinceReport_1 ?_
  refine JG_aload_n 0 rfl dL_sinceReport_2 ?_
  refine JG_iload_n 1 rfl dL_sinceReport_3 ?_
  refine JG_callX7 (As := [.int p0]) (rest := [.int 0, .ref (ka S 80 0)]) [] (wlo cy S G) dL_sinceReport_4 hc rfl rfl lm_L_98 kc_yX7_sinceReport ki_yX7_sinceReport kv_yX7_sinceReport kd_yX7_sinceReport ⟨(by show d + 1 ≤ d + 1; exact Nat.le_refl _), (by show 8 + (3 + 11) + (40 * d + 100) ≤ 40 * (d + 1) + 100; omega)⟩ (by show 0 + mc ≤ mc; omega) (by show 0 + ms ≤ ms; omega) (Nat.le_of_ble_eq_true rfl) (fun _ _ h => h.elim) (fun E9 w9 h9 q => ?_)
  obtain ⟨rfl, hP⟩ := h9
  refine JX_catch [] 0 (fun _ _ _ _ _ _ _ _ _ _ _ h => h.1) rfl (by decide) (by decide) lk_L_20 (by decide) (fun j z hj hz => ?_) ?_
  · omega
  refine JG_eq (w' := w9 ++ wlo cy S G) rfl rfl rfl ?_
  refine JG_astore_n (lv' := [(0, .ref (ka S 0 0)), (1, .int p0), (2, .ref (ka S 80 0)), (3, .ref q)]) (by decide) rfl dL_sinceReport_12 ?_
  refine JG_iconst (v := 1) (by decide) dL_sinceReport_13 ?_
  exact JG_iretH dL_sinceReport_14 (⟨rfl, w9, hP, rfl⟩) (by omega) (by omega)

set_option maxRecDepth 20000 in
set_option maxHeartbeats 1000000 in
theorem w_sinceReport_2 {cy : Nat → ClassId} {S : Nat → Nat → Nat} {I : kI} {L : kL} {R : kRf} {LP : List Nat} {G : kL} {d mc ms : Nat} {p0 : Int32} {Pw : va_W → Prop} (hc : Con yX7_sinceReport cX7_sinceReport 3 (some .int) d mc ms cy [.ref (ka S 0 0), .int p0] (wc cy S I L R LP) kNo (fun E2 w2 => E2 = "java/lang/IllegalStateException" ∧ Pw w2)) : ConH [(0, 9, 12, 20), (0, 9, 15, 15)] yL_sinceReport cL_sinceReport 4 (some .int) (d + 1) mc ms cy [.ref (ka S 0 0), .int p0, .ref (ka S 80 0)] (wc cy S I L R LP ++ wlo cy S G) (fun r w' => r = some (.int 2) ∧ ∃ w9, Pw w9 ∧ w' = w9 ++ wlo cy S G) := by
  refine ConH_of (by decide +kernel) (Nat.le_of_ble_eq_true rfl) ?_
  refine JG_eq (lv' := [(0, .ref (ka S 0 0)), (1, .int p0), (2, .ref (ka S 80 0))]) rfl rfl rfl ?_
  refine JG_aload_n 2 rfl dL_sinceReport_0 ?_
  refine JG_iconst (v := 0) (by decide) dL_sinceReport_1 ?_
  refine JG_aload_n 0 rfl dL_sinceReport_2 ?_
  refine JG_iload_n 1 rfl dL_sinceReport_3 ?_
  refine JG_callX7 (As := [.int p0]) (rest := [.int 0, .ref (ka S 80 0)]) [] (wlo cy S G) dL_sinceReport_4 hc rfl rfl lm_L_98 kc_yX7_sinceReport ki_yX7_sinceReport kv_yX7_sinceReport kd_yX7_sinceReport ⟨(by show d + 1 ≤ d + 1; exact Nat.le_refl _), (by show 8 + (3 + 11) + (40 * d + 100) ≤ 40 * (d + 1) + 100; omega)⟩ (by show 0 + mc ≤ mc; omega) (by show 0 + ms ≤ ms; omega) (Nat.le_of_ble_eq_true rfl) (fun _ _ h => h.elim) (fun E9 w9 h9 q => ?_)
  obtain ⟨rfl, hP⟩ := h9
  refine JX_catch [] 1 (fun _ _ _ _ _ _ _ _ _ _ _ h => h.1) rfl (by decide) (by decide) lk_L_15 (by decide) (fun j z hj hz => ?_) ?_
  · have hj2 : j = 0 := by omega
    subst hj2
    cases hz
    exact ⟨by decide, _, lk_L_20, by decide⟩
  refine JG_eq (w' := w9 ++ wlo cy S G) rfl rfl rfl ?_
  refine JG_astore_n (lv' := [(0, .ref (ka S 0 0)), (1, .int p0), (2, .ref (ka S 80 0)), (3, .ref q)]) (by decide) rfl dL_sinceReport_15 ?_
  refine JG_iconst (v := 2) (by decide) dL_sinceReport_16 ?_
  exact JG_iretH dL_sinceReport_17 (⟨rfl, w9, hP, rfl⟩) (by omega) (by omega)

set_option maxRecDepth 20000 in
set_option maxHeartbeats 1000000 in
theorem w_missed_s {cy : Nat → ClassId} {S : Nat → Nat → Nat} {I : kI} {L : kL} {R : kRf} {LP : List Nat} {G : kL} {d mc ms : Nat} {p0 : Int32} {Pw : va_W → Prop} {v : Int32}  (hc : Con yX7_missed cX7_missed 2 (some .int) d mc ms cy [.ref (ka S 0 0), .int p0] (wc cy S I L R LP) (fun r w2 => r = some (.int v) ∧ Pw w2) kF) : ConH [(0, 9, 12, 20)] yL_missed cL_missed 4 (some .int) (d + 1) mc ms cy [.ref (ka S 0 0), .int p0, .ref (ka S 80 0)] (wc cy S I L R LP ++ wlo cy S G) (fun r w' => r = some (.int 0) ∧ ∃ w9, Pw w9 ∧ w' = w9 ++ wlo cy S (ku G 80 0 0 v.toInt64)) := by
  refine ConH_of (by decide +kernel) (Nat.le_of_ble_eq_true rfl) ?_
  refine JG_eq (lv' := [(0, .ref (ka S 0 0)), (1, .int p0), (2, .ref (ka S 80 0))]) rfl rfl rfl ?_
  refine JG_aload_n 2 rfl dL_missed_0 ?_
  refine JG_iconst (v := 0) (by decide) dL_missed_1 ?_
  refine JG_aload_n 0 rfl dL_missed_2 ?_
  refine JG_iload_n 1 rfl dL_missed_3 ?_
  refine JG_callX7 (As := [.int p0]) (rest := [.int 0, .ref (ka S 80 0)]) [] (wlo cy S G) dL_missed_4 hc rfl rfl lm_L_101 kc_yX7_missed ki_yX7_missed kv_yX7_missed kd_yX7_missed ⟨(by show d + 1 ≤ d + 1; exact Nat.le_refl _), (by show 8 + (2 + 11) + (40 * d + 100) ≤ 40 * (d + 1) + 100; omega)⟩ (by show 0 + mc ≤ mc; omega) (by show 0 + ms ≤ ms; omega) (Nat.le_of_ble_eq_true rfl) (fun r9 w9 h9 => ?_) (fun _ _ h => h.elim)
  obtain ⟨rfl, hP⟩ := h9
  refine JG_eq (w' := w9 ++ wlo cy S G) (st' := [.int v, .int 0, .ref (ka S 80 0)]) rfl rfl rfl ?_
  refine JG_i2l dL_missed_7 ?_
  refine JG_lastO dL_missed_8 ?_
  refine JG_goto 15 (by decide) dL_missed_9 ?_
  refine JG_iconst (v := 0) (by decide) dL_missed_15 ?_
  exact JG_iretH dL_missed_16 (⟨rfl, w9, hP, rfl⟩) (by omega) (by omega)

set_option maxRecDepth 20000 in
set_option maxHeartbeats 1000000 in
theorem w_missed_1 {cy : Nat → ClassId} {S : Nat → Nat → Nat} {I : kI} {L : kL} {R : kRf} {LP : List Nat} {G : kL} {d mc ms : Nat} {p0 : Int32} {Pw : va_W → Prop} (hc : Con yX7_missed cX7_missed 2 (some .int) d mc ms cy [.ref (ka S 0 0), .int p0] (wc cy S I L R LP) kNo (fun E2 w2 => E2 = "java/lang/IndexOutOfBoundsException" ∧ Pw w2)) : ConH [(0, 9, 12, 20)] yL_missed cL_missed 4 (some .int) (d + 1) mc ms cy [.ref (ka S 0 0), .int p0, .ref (ka S 80 0)] (wc cy S I L R LP ++ wlo cy S G) (fun r w' => r = some (.int 1) ∧ ∃ w9, Pw w9 ∧ w' = w9 ++ wlo cy S G) := by
  refine ConH_of (by decide +kernel) (Nat.le_of_ble_eq_true rfl) ?_
  refine JG_eq (lv' := [(0, .ref (ka S 0 0)), (1, .int p0), (2, .ref (ka S 80 0))]) rfl rfl rfl ?_
  refine JG_aload_n 2 rfl dL_missed_0 ?_
  refine JG_iconst (v := 0) (by decide) dL_missed_1 ?_
  refine JG_aload_n 0 rfl dL_missed_2 ?_
  refine JG_iload_n 1 rfl dL_missed_3 ?_
  refine JG_callX7 (As := [.int p0]) (rest := [.int 0, .ref (ka S 80 0)]) [] (wlo cy S G) dL_missed_4 hc rfl rfl lm_L_101 kc_yX7_missed ki_yX7_missed kv_yX7_missed kd_yX7_missed ⟨(by show d + 1 ≤ d + 1; exact Nat.le_refl _), (by show 8 + (2 + 11) + (40 * d + 100) ≤ 40 * (d + 1) + 100; omega)⟩ (by show 0 + mc ≤ mc; omega) (by show 0 + ms ≤ ms; omega) (Nat.le_of_ble_eq_true rfl) (fun _ _ h => h.elim) (fun E9 w9 h9 q => ?_)
  obtain ⟨rfl, hP⟩ := h9
  refine JX_catch [] 0 (fun _ _ _ _ _ _ _ _ _ _ _ h => h.1) rfl (by decide) (by decide) lk_L_20 (by decide) (fun j z hj hz => ?_) ?_
  · omega
  refine JG_eq (w' := w9 ++ wlo cy S G) rfl rfl rfl ?_
  refine JG_astore_n (lv' := [(0, .ref (ka S 0 0)), (1, .int p0), (2, .ref (ka S 80 0)), (3, .ref q)]) (by decide) rfl dL_missed_12 ?_
  refine JG_iconst (v := 1) (by decide) dL_missed_13 ?_
  exact JG_iretH dL_missed_14 (⟨rfl, w9, hP, rfl⟩) (by omega) (by omega)

set_option maxRecDepth 20000 in
set_option maxHeartbeats 1000000 in
theorem w_logTime_s {cy : Nat → ClassId} {S : Nat → Nat → Nat} {I : kI} {L : kL} {R : kRf} {LP : List Nat} {G : kL} {d mc ms : Nat} {p0 : Int32} {Pw : va_W → Prop} {v : Int32}  (hc : Con yX7_logTime cX7_logTime 2 (some .int) d mc ms cy [.ref (ka S 0 0), .int p0] (wc cy S I L R LP) (fun r w2 => r = some (.int v) ∧ Pw w2) kF) : ConH [(0, 9, 12, 41)] yL_logTime cL_logTime 4 (some .int) (d + 1) mc ms cy [.ref (ka S 0 0), .int p0, .ref (ka S 80 0)] (wc cy S I L R LP ++ wlo cy S G) (fun r w' => r = some (.int 0) ∧ ∃ w9, Pw w9 ∧ w' = w9 ++ wlo cy S (ku G 80 0 0 v.toInt64)) := by
  refine ConH_of (by decide +kernel) (Nat.le_of_ble_eq_true rfl) ?_
  refine JG_eq (lv' := [(0, .ref (ka S 0 0)), (1, .int p0), (2, .ref (ka S 80 0))]) rfl rfl rfl ?_
  refine JG_aload_n 2 rfl dL_logTime_0 ?_
  refine JG_iconst (v := 0) (by decide) dL_logTime_1 ?_
  refine JG_aload_n 0 rfl dL_logTime_2 ?_
  refine JG_iload_n 1 rfl dL_logTime_3 ?_
  refine JG_callX7 (As := [.int p0]) (rest := [.int 0, .ref (ka S 80 0)]) [] (wlo cy S G) dL_logTime_4 hc rfl rfl lm_L_104 kc_yX7_logTime ki_yX7_logTime kv_yX7_logTime kd_yX7_logTime ⟨(by show d + 1 ≤ d + 1; exact Nat.le_refl _), (by show 8 + (2 + 11) + (40 * d + 100) ≤ 40 * (d + 1) + 100; omega)⟩ (by show 0 + mc ≤ mc; omega) (by show 0 + ms ≤ ms; omega) (Nat.le_of_ble_eq_true rfl) (fun r9 w9 h9 => ?_) (fun _ _ h => h.elim)
  obtain ⟨rfl, hP⟩ := h9
  refine JG_eq (w' := w9 ++ wlo cy S G) (st' := [.int v, .int 0, .ref (ka S 80 0)]) rfl rfl rfl ?_
  refine JG_i2l dL_logTime_7 ?_
  refine JG_lastO dL_logTime_8 ?_
  refine JG_goto 15 (by decide) dL_logTime_9 ?_
  refine JG_iconst (v := 0) (by decide) dL_logTime_15 ?_
  exact JG_iretH dL_logTime_16 (⟨rfl, w9, hP, rfl⟩) (by omega) (by omega)

set_option maxRecDepth 20000 in
set_option maxHeartbeats 1000000 in
theorem w_logTime_1 {cy : Nat → ClassId} {S : Nat → Nat → Nat} {I : kI} {L : kL} {R : kRf} {LP : List Nat} {G : kL} {d mc ms : Nat} {p0 : Int32} {Pw : va_W → Prop} (hc : Con yX7_logTime cX7_logTime 2 (some .int) d mc ms cy [.ref (ka S 0 0), .int p0] (wc cy S I L R LP) kNo (fun E2 w2 => E2 = "java/util/NoSuchElementException" ∧ Pw w2)) : ConH [(0, 9, 12, 41)] yL_logTime cL_logTime 4 (some .int) (d + 1) mc ms cy [.ref (ka S 0 0), .int p0, .ref (ka S 80 0)] (wc cy S I L R LP ++ wlo cy S G) (fun r w' => r = some (.int 1) ∧ ∃ w9, Pw w9 ∧ w' = w9 ++ wlo cy S G) := by
  refine ConH_of (by decide +kernel) (Nat.le_of_ble_eq_true rfl) ?_
  refine JG_eq (lv' := [(0, .ref (ka S 0 0)), (1, .int p0), (2, .ref (ka S 80 0))]) rfl rfl rfl ?_
  refine JG_aload_n 2 rfl dL_logTime_0 ?_
  refine JG_iconst (v := 0) (by decide) dL_logTime_1 ?_
  refine JG_aload_n 0 rfl dL_logTime_2 ?_
  refine JG_iload_n 1 rfl dL_logTime_3 ?_
  refine JG_callX7 (As := [.int p0]) (rest := [.int 0, .ref (ka S 80 0)]) [] (wlo cy S G) dL_logTime_4 hc rfl rfl lm_L_104 kc_yX7_logTime ki_yX7_logTime kv_yX7_logTime kd_yX7_logTime ⟨(by show d + 1 ≤ d + 1; exact Nat.le_refl _), (by show 8 + (2 + 11) + (40 * d + 100) ≤ 40 * (d + 1) + 100; omega)⟩ (by show 0 + mc ≤ mc; omega) (by show 0 + ms ≤ ms; omega) (Nat.le_of_ble_eq_true rfl) (fun _ _ h => h.elim) (fun E9 w9 h9 q => ?_)
  obtain ⟨rfl, hP⟩ := h9
  refine JX_catch [] 0 (fun _ _ _ _ _ _ _ _ _ _ _ h => h.1) rfl (by decide) (by decide) lk_L_41 (by decide) (fun j z hj hz => ?_) ?_
  · omega
  refine JG_eq (w' := w9 ++ wlo cy S G) rfl rfl rfl ?_
  refine JG_astore_n (lv' := [(0, .ref (ka S 0 0)), (1, .int p0), (2, .ref (ka S 80 0)), (3, .ref q)]) (by decide) rfl dL_logTime_12 ?_
  refine JG_iconst (v := 1) (by decide) dL_logTime_13 ?_
  exact JG_iretH dL_logTime_14 (⟨rfl, w9, hP, rfl⟩) (by omega) (by omega)

set_option maxRecDepth 20000 in
set_option maxHeartbeats 1000000 in
theorem w_logKind_s {cy : Nat → ClassId} {S : Nat → Nat → Nat} {I : kI} {L : kL} {R : kRf} {LP : List Nat} {G : kL} {d mc ms : Nat} {p0 : Int32} {Pw : va_W → Prop} {v : Int32}  (hc : Con yX7_logKind cX7_logKind 2 (some .char) d mc ms cy [.ref (ka S 0 0), .int p0] (wc cy S I L R LP) (fun r w2 => r = some (.int v) ∧ Pw w2) kF) : ConH [(0, 9, 12, 41)] yL_logKind cL_logKind 4 (some .int) (d + 1) mc ms cy [.ref (ka S 0 0), .int p0, .ref (ka S 80 0)] (wc cy S I L R LP ++ wlo cy S G) (fun r w' => r = some (.int 0) ∧ ∃ w9, Pw w9 ∧ w' = w9 ++ wlo cy S (ku G 80 0 0 v.toInt64)) := by
  refine ConH_of (by decide +kernel) (Nat.le_of_ble_eq_true rfl) ?_
  refine JG_eq (lv' := [(0, .ref (ka S 0 0)), (1, .int p0), (2, .ref (ka S 80 0))]) rfl rfl rfl ?_
  refine JG_aload_n 2 rfl dL_logKind_0 ?_
  refine JG_iconst (v := 0) (by decide) dL_logKind_1 ?_
  refine JG_aload_n 0 rfl dL_logKind_2 ?_
  refine JG_iload_n 1 rfl dL_logKind_3 ?_
  refine JG_callX7 (As := [.int p0]) (rest := [.int 0, .ref (ka S 80 0)]) [] (wlo cy S G) dL_logKind_4 hc rfl rfl lm_L_107 kc_yX7_logKind ki_yX7_logKind kv_yX7_logKind kd_yX7_logKind ⟨(by show d + 1 ≤ d + 1; exact Nat.le_refl _), (by show 8 + (2 + 11) + (40 * d + 100) ≤ 40 * (d + 1) + 100; omega)⟩ (by show 0 + mc ≤ mc; omega) (by show 0 + ms ≤ ms; omega) (Nat.le_of_ble_eq_true rfl) (fun r9 w9 h9 => ?_) (fun _ _ h => h.elim)
  obtain ⟨rfl, hP⟩ := h9
  refine JG_eq (w' := w9 ++ wlo cy S G) (st' := [.int v, .int 0, .ref (ka S 80 0)]) rfl rfl rfl ?_
  refine JG_i2l dL_logKind_7 ?_
  refine JG_lastO dL_logKind_8 ?_
  refine JG_goto 15 (by decide) dL_logKind_9 ?_
  refine JG_iconst (v := 0) (by decide) dL_logKind_15 ?_
  exact JG_iretH dL_logKind_16 (⟨rfl, w9, hP, rfl⟩) (by omega) (by omega)

set_option maxRecDepth 20000 in
set_option maxHeartbeats 1000000 in
theorem w_logKind_1 {cy : Nat → ClassId} {S : Nat → Nat → Nat} {I : kI} {L : kL} {R : kRf} {LP : List Nat} {G : kL} {d mc ms : Nat} {p0 : Int32} {Pw : va_W → Prop} (hc : Con yX7_logKind cX7_logKind 2 (some .char) d mc ms cy [.ref (ka S 0 0), .int p0] (wc cy S I L R LP) kNo (fun E2 w2 => E2 = "java/util/NoSuchElementException" ∧ Pw w2)) : ConH [(0, 9, 12, 41)] yL_logKind cL_logKind 4 (some .int) (d + 1) mc ms cy [.ref (ka S 0 0), .int p0, .ref (ka S 80 0)] (wc cy S I L R LP ++ wlo cy S G) (fun r w' => r = some (.int 1) ∧ ∃ w9, Pw w9 ∧ w' = w9 ++ wlo cy S G) := by
  refine ConH_of (by decide +kernel) (Nat.le_of_ble_eq_true rfl) ?_
  refine JG_eq (lv' := [(0, .ref (ka S 0 0)), (1, .int p0), (2, .ref (ka S 80 0))]) rfl rfl rfl ?_
  refine JG_aload_n 2 rfl dL_logKind_0 ?_
  refine JG_iconst (v := 0) (by decide) dL_logKind_1 ?_
  refine JG_aload_n 0 rfl dL_logKind_2 ?_
  refine JG_iload_n 1 rfl dL_logKind_3 ?_
  refine JG_callX7 (As := [.int p0]) (rest := [.int 0, .ref (ka S 80 0)]) [] (wlo cy S G) dL_logKind_4 hc rfl rfl lm_L_107 kc_yX7_logKind ki_yX7_logKind kv_yX7_logKind kd_yX7_logKind ⟨(by show d + 1 ≤ d + 1; exact Nat.le_refl _), (by show 8 + (2 + 11) + (40 * d + 100) ≤ 40 * (d + 1) + 100; omega)⟩ (by show 0 + mc ≤ mc; omega) (by show 0 + ms ≤ ms; omega) (Nat.le_of_ble_eq_true rfl) (fun _ _ h => h.elim) (fun E9 w9 h9 q => ?_)
  obtain ⟨rfl, hP⟩ := h9
  refine JX_catch [] 0 (fun _ _ _ _ _ _ _ _ _ _ _ h => h.1) rfl (by decide) (by decide) lk_L_41 (by decide) (fun j z hj hz => ?_) ?_
  · omega
  refine JG_eq (w' := w9 ++ wlo cy S G) rfl rfl rfl ?_
  refine JG_astore_n (lv' := [(0, .ref (ka S 0 0)), (1, .int p0), (2, .ref (ka S 80 0)), (3, .ref q)]) (by decide) rfl dL_logKind_12 ?_
  refine JG_iconst (v := 1) (by decide) dL_logKind_13 ?_
  exact JG_iretH dL_logKind_14 (⟨rfl, w9, hP, rfl⟩) (by omega) (by omega)

set_option maxRecDepth 20000 in
set_option maxHeartbeats 1000000 in
theorem w_logNumber_s {cy : Nat → ClassId} {S : Nat → Nat → Nat} {I : kI} {L : kL} {R : kRf} {LP : List Nat} {G : kL} {d mc ms : Nat} {p0 : Int32} {Pw : va_W → Prop} {v : Int32}  (hc : Con yX7_logNumber cX7_logNumber 2 (some .int) d mc ms cy [.ref (ka S 0 0), .int p0] (wc cy S I L R LP) (fun r w2 => r = some (.int v) ∧ Pw w2) kF) : ConH [(0, 9, 12, 41)] yL_logNumber cL_logNumber 4 (some .int) (d + 1) mc ms cy [.ref (ka S 0 0), .int p0, .ref (ka S 80 0)] (wc cy S I L R LP ++ wlo cy S G) (fun r w' => r = some (.int 0) ∧ ∃ w9, Pw w9 ∧ w' = w9 ++ wlo cy S (ku G 80 0 0 v.toInt64)) := by
  refine ConH_of (by decide +kernel) (Nat.le_of_ble_eq_true rfl) ?_
  refine JG_eq (lv' := [(0, .ref (ka S 0 0)), (1, .int p0), (2, .ref (ka S 80 0))]) rfl rfl rfl ?_
  refine JG_aload_n 2 rfl dL_logNumber_0 ?_
  refine JG_iconst (v := 0) (by decide) dL_logNumber_1 ?_
  refine JG_aload_n 0 rfl dL_logNumber_2 ?_
  refine JG_iload_n 1 rfl dL_logNumber_3 ?_
  refine JG_callX7 (As := [.int p0]) (rest := [.int 0, .ref (ka S 80 0)]) [] (wlo cy S G) dL_logNumber_4 hc rfl rfl lm_L_110 kc_yX7_logNumber ki_yX7_logNumber kv_yX7_logNumber kd_yX7_logNumber ⟨(by show d + 1 ≤ d + 1; exact Nat.le_refl _), (by show 8 + (2 + 11) + (40 * d + 100) ≤ 40 * (d + 1) + 100; omega)⟩ (by show 0 + mc ≤ mc; omega) (by show 0 + ms ≤ ms; omega) (Nat.le_of_ble_eq_true rfl) (fun r9 w9 h9 => ?_) (fun _ _ h => h.elim)
  obtain ⟨rfl, hP⟩ := h9
  refine JG_eq (w' := w9 ++ wlo cy S G) (st' := [.int v, .int 0, .ref (ka S 80 0)]) rfl rfl rfl ?_
  refine JG_i2l dL_logNumber_7 ?_
  refine JG_lastO dL_logNumber_8 ?_
  refine JG_goto 15 (by decide) dL_logNumber_9 ?_
  refine JG_iconst (v := 0) (by decide) dL_logNumber_15 ?_
  exact JG_iretH dL_logNumber_16 (⟨rfl, w9, hP, rfl⟩) (by omega) (by omega)

set_option maxRecDepth 20000 in
set_option maxHeartbeats 1000000 in
theorem w_logNumber_1 {cy : Nat → ClassId} {S : Nat → Nat → Nat} {I : kI} {L : kL} {R : kRf} {LP : List Nat} {G : kL} {d mc ms : Nat} {p0 : Int32} {Pw : va_W → Prop} (hc : Con yX7_logNumber cX7_logNumber 2 (some .int) d mc ms cy [.ref (ka S 0 0), .int p0] (wc cy S I L R LP) kNo (fun E2 w2 => E2 = "java/util/NoSuchElementException" ∧ Pw w2)) : ConH [(0, 9, 12, 41)] yL_logNumber cL_logNumber 4 (some .int) (d + 1) mc ms cy [.ref (ka S 0 0), .int p0, .ref (ka S 80 0)] (wc cy S I L R LP ++ wlo cy S G) (fun r w' => r = some (.int 1) ∧ ∃ w9, Pw w9 ∧ w' = w9 ++ wlo cy S G) := by
  refine ConH_of (by decide +kernel) (Nat.le_of_ble_eq_true rfl) ?_
  refine JG_eq (lv' := [(0, .ref (ka S 0 0)), (1, .int p0), (2, .ref (ka S 80 0))]) rfl rfl rfl ?_
  refine JG_aload_n 2 rfl dL_logNumber_0 ?_
  refine JG_iconst (v := 0) (by decide) dL_logNumber_1 ?_
  refine JG_aload_n 0 rfl dL_logNumber_2 ?_
  refine JG_iload_n 1 rfl dL_logNumber_3 ?_
  refine JG_callX7 (As := [.int p0]) (rest := [.int 0, .ref (ka S 80 0)]) [] (wlo cy S G) dL_logNumber_4 hc rfl rfl lm_L_110 kc_yX7_logNumber ki_yX7_logNumber kv_yX7_logNumber kd_yX7_logNumber ⟨(by show d + 1 ≤ d + 1; exact Nat.le_refl _), (by show 8 + (2 + 11) + (40 * d + 100) ≤ 40 * (d + 1) + 100; omega)⟩ (by show 0 + mc ≤ mc; omega) (by show 0 + ms ≤ ms; omega) (Nat.le_of_ble_eq_true rfl) (fun _ _ h => h.elim) (fun E9 w9 h9 q => ?_)
  obtain ⟨rfl, hP⟩ := h9
  refine JX_catch [] 0 (fun _ _ _ _ _ _ _ _ _ _ _ h => h.1) rfl (by decide) (by decide) lk_L_41 (by decide) (fun j z hj hz => ?_) ?_
  · omega
  refine JG_eq (w' := w9 ++ wlo cy S G) rfl rfl rfl ?_
  refine JG_astore_n (lv' := [(0, .ref (ka S 0 0)), (1, .int p0), (2, .ref (ka S 80 0)), (3, .ref q)]) (by decide) rfl dL_logNumber_12 ?_
  refine JG_iconst (v := 1) (by decide) dL_logNumber_13 ?_
  exact JG_iretH dL_logNumber_14 (⟨rfl, w9, hP, rfl⟩) (by omega) (by omega)

set_option maxRecDepth 20000 in
set_option maxHeartbeats 1000000 in
theorem w_meanWait_s {cy : Nat → ClassId} {S : Nat → Nat → Nat} {I : kI} {L : kL} {R : kRf} {LP : List Nat} {G : kL} {d mc ms : Nat} {Pw : va_W → Prop} {v : UInt64}  (hc : Con yX7_meanWait cX7_meanWait 1 (some .double) d mc ms cy [.ref (ka S 0 0)] (wc cy S I L R LP) (fun r w2 => r = some (.double v) ∧ Pw w2) kF) : ConH [(0, 7, 10, 117)] yL_meanWait cL_meanWait 3 (some .int) (d + 1) mc ms cy [.ref (ka S 0 0), .ref (ka S 81 0)] (wc cy S I L R LP ++ wlo cy S G) (fun r w' => r = some (.int 0) ∧ ∃ w9, Pw w9 ∧ w' = w9 ++ wlo cy S (ku G 81 0 0 v.toInt64)) := by
  refine ConH_of (by decide +kernel) (Nat.le_of_ble_eq_true rfl) ?_
  refine JG_eq (lv' := [(0, .ref (ka S 0 0)), (1, .ref (ka S 81 0))]) rfl rfl rfl ?_
  refine JG_aload_n 1 rfl dL_meanWait_0 ?_
  refine JG_iconst (v := 0) (by decide) dL_meanWait_1 ?_
  refine JG_aload_n 0 rfl dL_meanWait_2 ?_
  refine JG_callX7 (As := []) (rest := [.int 0, .ref (ka S 81 0)]) [] (wlo cy S G) dL_meanWait_3 hc rfl rfl lm_L_113 kc_yX7_meanWait ki_yX7_meanWait kv_yX7_meanWait kd_yX7_meanWait ⟨(by show d + 1 ≤ d + 1; exact Nat.le_refl _), (by show 8 + (1 + 11) + (40 * d + 100) ≤ 40 * (d + 1) + 100; omega)⟩ (by show 0 + mc ≤ mc; omega) (by show 0 + ms ≤ ms; omega) (Nat.le_of_ble_eq_true rfl) (fun r9 w9 h9 => ?_) (fun _ _ h => h.elim)
  obtain ⟨rfl, hP⟩ := h9
  refine JG_eq (w' := w9 ++ wlo cy S G) (st' := [.double v, .int 0, .ref (ka S 81 0)]) rfl rfl rfl ?_
  refine JG_dastO dL_meanWait_6 ?_
  refine JG_goto 13 (by decide) dL_meanWait_7 ?_
  refine JG_iconst (v := 0) (by decide) dL_meanWait_13 ?_
  exact JG_iretH dL_meanWait_14 (⟨rfl, w9, hP, rfl⟩) (by omega) (by omega)

set_option maxRecDepth 20000 in
set_option maxHeartbeats 1000000 in
theorem w_meanWait_1 {cy : Nat → ClassId} {S : Nat → Nat → Nat} {I : kI} {L : kL} {R : kRf} {LP : List Nat} {G : kL} {d mc ms : Nat} {Pw : va_W → Prop} (hc : Con yX7_meanWait cX7_meanWait 1 (some .double) d mc ms cy [.ref (ka S 0 0)] (wc cy S I L R LP) kNo (fun E2 w2 => E2 = "java/lang/ArithmeticException" ∧ Pw w2)) : ConH [(0, 7, 10, 117)] yL_meanWait cL_meanWait 3 (some .int) (d + 1) mc ms cy [.ref (ka S 0 0), .ref (ka S 81 0)] (wc cy S I L R LP ++ wlo cy S G) (fun r w' => r = some (.int 1) ∧ ∃ w9, Pw w9 ∧ w' = w9 ++ wlo cy S G) := by
  refine ConH_of (by decide +kernel) (Nat.le_of_ble_eq_true rfl) ?_
  refine JG_eq (lv' := [(0, .ref (ka S 0 0)), (1, .ref (ka S 81 0))]) rfl rfl rfl ?_
  refine JG_aload_n 1 rfl dL_meanWait_0 ?_
  refine JG_iconst (v := 0) (by decide) dL_meanWait_1 ?_
  refine JG_aload_n 0 rfl dL_meanWait_2 ?_
  refine JG_callX7 (As := []) (rest := [.int 0, .ref (ka S 81 0)]) [] (wlo cy S G) dL_meanWait_3 hc rfl rfl lm_L_113 kc_yX7_meanWait ki_yX7_meanWait kv_yX7_meanWait kd_yX7_meanWait ⟨(by show d + 1 ≤ d + 1; exact Nat.le_refl _), (by show 8 + (1 + 11) + (40 * d + 100) ≤ 40 * (d + 1) + 100; omega)⟩ (by show 0 + mc ≤ mc; omega) (by show 0 + ms ≤ ms; omega) (Nat.le_of_ble_eq_true rfl) (fun _ _ h => h.elim) (fun E9 w9 h9 q => ?_)
  obtain ⟨rfl, hP⟩ := h9
  refine JX_catch [] 0 (fun _ _ _ _ _ _ _ _ _ _ _ h => h.1) rfl (by decide) (by decide) lk_L_117 (by decide) (fun j z hj hz => ?_) ?_
  · omega
  refine JG_eq (w' := w9 ++ wlo cy S G) rfl rfl rfl ?_
  refine JG_astore_n (lv' := [(0, .ref (ka S 0 0)), (1, .ref (ka S 81 0)), (2, .ref q)]) (by decide) rfl dL_meanWait_10 ?_
  refine JG_iconst (v := 1) (by decide) dL_meanWait_11 ?_
  exact JG_iretH dL_meanWait_12 (⟨rfl, w9, hP, rfl⟩) (by omega) (by omega)

set_option maxRecDepth 20000 in
set_option maxHeartbeats 1000000 in
theorem w_channelShare_s {cy : Nat → ClassId} {S : Nat → Nat → Nat} {I : kI} {L : kL} {R : kRf} {LP : List Nat} {G : kL} {d mc ms : Nat} {p0 : Int32} {Pw : va_W → Prop} {v : UInt32} (hv : vf_n64 (FP.f2d v)) (hc : Con yX7_channelShare cX7_channelShare 2 (some .float) d mc ms cy [.ref (ka S 0 0), .int p0] (wc cy S I L R LP) (fun r w2 => r = some (.float v) ∧ Pw w2) kF) : ConH [(0, 9, 12, 20), (0, 9, 15, 117)] yL_channelShare cL_channelShare 4 (some .int) (d + 1) mc ms cy [.ref (ka S 0 0), .int p0, .ref (ka S 81 0)] (wc cy S I L R LP ++ wlo cy S G) (fun r w' => r = some (.int 0) ∧ ∃ w9, Pw w9 ∧ w' = w9 ++ wlo cy S (ku G 81 0 0 (FP.f2d v).toInt64)) := by
  refine ConH_of (by decide +kernel) (Nat.le_of_ble_eq_true rfl) ?_
  refine JG_eq (lv' := [(0, .ref (ka S 0 0)), (1, .int p0), (2, .ref (ka S 81 0))]) rfl rfl rfl ?_
  refine JG_aload_n 2 rfl dL_channelShare_0 ?_
  refine JG_iconst (v := 0) (by decide) dL_channelShare_1 ?_
  refine JG_aload_n 0 rfl dL_channelShare_2 ?_
  refine JG_iload_n 1 rfl dL_channelShare_3 ?_
  refine JG_callX7 (As := [.int p0]) (rest := [.int 0, .ref (ka S 81 0)]) [] (wlo cy S G) dL_channelShare_4 hc rfl rfl lm_L_119 kc_yX7_channelShare ki_yX7_channelShare kv_yX7_channelShare kd_yX7_channelShare ⟨(by show d + 1 ≤ d + 1; exact Nat.le_refl _), (by show 8 + (2 + 11) + (40 * d + 100) ≤ 40 * (d + 1) + 100; omega)⟩ (by show 0 + mc ≤ mc; omega) (by show 0 + ms ≤ ms; omega) (Nat.le_of_ble_eq_true rfl) (fun r9 w9 h9 => ?_) (fun _ _ h => h.elim)
  obtain ⟨rfl, hP⟩ := h9
  refine JG_eq (w' := w9 ++ wlo cy S G) (st' := [.float v, .int 0, .ref (ka S 81 0)]) rfl rfl rfl ?_
  refine JG_f2d (hv) dL_channelShare_7 ?_
  refine JG_dastO dL_channelShare_8 ?_
  refine JG_goto 18 (by decide) dL_channelShare_9 ?_
  refine JG_iconst (v := 0) (by decide) dL_channelShare_18 ?_
  exact JG_iretH dL_channelShare_19 (⟨rfl, w9, hP, rfl⟩) (by omega) (by omega)

set_option maxRecDepth 20000 in
set_option maxHeartbeats 1000000 in
theorem w_channelShare_1 {cy : Nat → ClassId} {S : Nat → Nat → Nat} {I : kI} {L : kL} {R : kRf} {LP : List Nat} {G : kL} {d mc ms : Nat} {p0 : Int32} {Pw : va_W → Prop} (hc : Con yX7_channelShare cX7_channelShare 2 (some .float) d mc ms cy [.ref (ka S 0 0), .int p0] (wc cy S I L R LP) kNo (fun E2 w2 => E2 = "java/lang/IndexOutOfBoundsException" ∧ Pw w2)) : ConH [(0, 9, 12, 20), (0, 9, 15, 117)] yL_channelShare cL_channelShare 4 (some .int) (d + 1) mc ms cy [.ref (ka S 0 0), .int p0, .ref (ka S 81 0)] (wc cy S I L R LP ++ wlo cy S G) (fun r w' => r = some (.int 1) ∧ ∃ w9, Pw w9 ∧ w' = w9 ++ wlo cy S G) := by
  refine ConH_of (by decide +kernel) (Nat.le_of_ble_eq_true rfl) ?_
  refine JG_eq (lv' := [(0, .ref (ka S 0 0)), (1, .int p0), (2, .ref (ka S 81 0))]) rfl rfl rfl ?_
  refine JG_aload_n 2 rfl dL_channelShare_0 ?_
  refine JG_iconst (v := 0) (by decide) dL_channelShare_1 ?_
  refine JG_aload_n 0 rfl dL_channelShare_2 ?_
  refine JG_iload_n 1 rfl dL_channelShare_3 ?_
  refine JG_callX7 (As := [.int p0]) (rest := [.int 0, .ref (ka S 81 0)]) [] (wlo cy S G) dL_channelShare_4 hc rfl rfl lm_L_119 kc_yX7_channelShare ki_yX7_channelShare kv_yX7_channelShare kd_yX7_channelShare ⟨(by show d + 1 ≤ d + 1; exact Nat.le_refl _), (by show 8 + (2 + 11) + (40 * d + 100) ≤ 40 * (d + 1) + 100; omega)⟩ (by show 0 + mc ≤ mc; omega) (by show 0 + ms ≤ ms; omega) (Nat.le_of_ble_eq_true rfl) (fun _ _ h => h.elim) (fun E9 w9 h9 q => ?_)
  obtain ⟨rfl, hP⟩ := h9
  refine JX_catch [] 0 (fun _ _ _ _ _ _ _ _ _ _ _ h => h.1) rfl (by decide) (by decide) lk_L_20 (by decide) (fun j z hj hz => ?_) ?_
  · omega
  refine JG_eq (w' := w9 ++ wlo cy S G) rfl rfl rfl ?_
  refine JG_astore_n (lv' := [(0, .ref (ka S 0 0)), (1, .int p0), (2, .ref (ka S 81 0)), (3, .ref q)]) (by decide) rfl dL_channelShare_12 ?_
  refine JG_iconst (v := 1) (by decide) dL_channelShare_13 ?_
  exact JG_iretH dL_channelShare_14 (⟨rfl, w9, hP, rfl⟩) (by omega) (by omega)

set_option maxRecDepth 20000 in
set_option maxHeartbeats 1000000 in
theorem w_channelShare_2 {cy : Nat → ClassId} {S : Nat → Nat → Nat} {I : kI} {L : kL} {R : kRf} {LP : List Nat} {G : kL} {d mc ms : Nat} {p0 : Int32} {Pw : va_W → Prop} (hc : Con yX7_channelShare cX7_channelShare 2 (some .float) d mc ms cy [.ref (ka S 0 0), .int p0] (wc cy S I L R LP) kNo (fun E2 w2 => E2 = "java/lang/ArithmeticException" ∧ Pw w2)) : ConH [(0, 9, 12, 20), (0, 9, 15, 117)] yL_channelShare cL_channelShare 4 (some .int) (d + 1) mc ms cy [.ref (ka S 0 0), .int p0, .ref (ka S 81 0)] (wc cy S I L R LP ++ wlo cy S G) (fun r w' => r = some (.int 2) ∧ ∃ w9, Pw w9 ∧ w' = w9 ++ wlo cy S G) := by
  refine ConH_of (by decide +kernel) (Nat.le_of_ble_eq_true rfl) ?_
  refine JG_eq (lv' := [(0, .ref (ka S 0 0)), (1, .int p0), (2, .ref (ka S 81 0))]) rfl rfl rfl ?_
  refine JG_aload_n 2 rfl dL_channelShare_0 ?_
  refine JG_iconst (v := 0) (by decide) dL_channelShare_1 ?_
  refine JG_aload_n 0 rfl dL_channelShare_2 ?_
  refine JG_iload_n 1 rfl dL_channelShare_3 ?_
  refine JG_callX7 (As := [.int p0]) (rest := [.int 0, .ref (ka S 81 0)]) [] (wlo cy S G) dL_channelShare_4 hc rfl rfl lm_L_119 kc_yX7_channelShare ki_yX7_channelShare kv_yX7_channelShare kd_yX7_channelShare ⟨(by show d + 1 ≤ d + 1; exact Nat.le_refl _), (by show 8 + (2 + 11) + (40 * d + 100) ≤ 40 * (d + 1) + 100; omega)⟩ (by show 0 + mc ≤ mc; omega) (by show 0 + ms ≤ ms; omega) (Nat.le_of_ble_eq_true rfl) (fun _ _ h => h.elim) (fun E9 w9 h9 q => ?_)
  obtain ⟨rfl, hP⟩ := h9
  refine JX_catch [] 1 (fun _ _ _ _ _ _ _ _ _ _ _ h => h.1) rfl (by decide) (by decide) lk_L_117 (by decide) (fun j z hj hz => ?_) ?_
  · have hj2 : j = 0 := by omega
    subst hj2
    cases hz
    exact ⟨by decide, _, lk_L_20, by decide⟩
  refine JG_eq (w' := w9 ++ wlo cy S G) rfl rfl rfl ?_
  refine JG_astore_n (lv' := [(0, .ref (ka S 0 0)), (1, .int p0), (2, .ref (ka S 81 0)), (3, .ref q)]) (by decide) rfl dL_channelShare_15 ?_
  refine JG_iconst (v := 2) (by decide) dL_channelShare_16 ?_
  exact JG_iretH dL_channelShare_17 (⟨rfl, w9, hP, rfl⟩) (by omega) (by omega)

