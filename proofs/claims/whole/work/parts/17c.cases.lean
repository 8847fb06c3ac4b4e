set_option maxHeartbeats 1000000 in
set_option maxRecDepth 20000 in
theorem zL_rule {p : Program} {l : Launch} {e : Env} {s : State} {m : MethodId} {args : Array Value} {below : List Frame} {meth : Method} {c : Code} {cells slots : Nat} {Q : State → Prop} {G : zz_C} {A : Nat → Prop} {M : zz_M} {b L i : Nat} {xs : Nat → Int32} {S : Nat → Option Nat} {hs : List (Nat → Option Nat)} (E : zz_E p room_1 s m args c cells slots cL_law 4 wsL_law RL G A) (hX : zX s A b L xs) (hi : i + 5 ≤ L) (hI : zI M S hs) (hJ : zJ M S hs) (go : ∀ (M' : zz_M) (S' : Nat → Option Nat) (hs' : List (Nat → Option Nat)), zI M' S' hs' → zJ M' S' hs' → zz_Z p l e room_1 s m args below meth c cells slots Q 4 G A M' 696 [(0, .ref b), (1, .ref (G.2.2 0)), (2, .ref (G.2.2 100)), (3, .int (nI i))] []) : zz_Z p l e room_1 s m args below meth c cells slots Q 4 G A M 120 [(0, .ref b), (1, .ref (G.2.2 0)), (2, .ref (G.2.2 100)), (3, .int (nI i))] [] := by
  refine zz_aload_n (pc := 120) E dL_law_120 rfl ?_
  refine zz_aload_n (pc := 121) E dL_law_121 rfl ?_
  refine zz_iload_n (pc := 122) E dL_law_122 rfl ?_
  refine zz_iconst (pc := 123) (v := nI 1) E dL_law_123 (by decide) ?_
  refine zz_iadd (pc := 124) E dL_law_124 ?_
  refine zz_sld (pc := 125) E hX (i + 1) (nI_add i 1) (by omega) dL_law_125 ?_
  refine zz_aload_n (pc := 126) E dL_law_126 rfl ?_
  refine zz_iload_n (pc := 127) E dL_law_127 rfl ?_
  refine zz_iconst (pc := 128) (v := nI 2) E dL_law_128 (by decide) ?_
  refine zz_iadd (pc := 129) E dL_law_129 ?_
  refine zz_sld (pc := 130) E hX (i + 2) (nI_add i 2) (by omega) dL_law_130 ?_
  refine zz_aload_n (pc := 131) E dL_law_131 rfl ?_
  refine zz_iload_n (pc := 132) E dL_law_132 rfl ?_
  refine zz_iconst (pc := 133) (v := nI 3) E dL_law_133 (by decide) ?_
  refine zz_iadd (pc := 134) E dL_law_134 ?_
  refine zz_sld (pc := 135) E hX (i + 3) (nI_add i 3) (by omega) dL_law_135 ?_
  refine zz_ciV (pc := 136) E 0 (kkX7_rule l G E.2.2.2.2.2.1 _ S hs _ _ _ hI) (cwV 3 E.2.2.2.2.1 gL_law_X7_rule rfl rfl rfl (by decide +kernel) ⟨Nat.le_of_ble_eq_true rfl, Nat.le_of_ble_eq_true rfl⟩) (by decide) rfl rfl rfl rfl (Nat.le_of_ble_eq_true rfl) dL_law_136 (fun r0 M0 h0 => ?_)
  obtain ⟨f0, e0, g0⟩ := h0
  have hJ1 := zJ_lo hJ f0
  refine zz_aload_n (pc := 139) E dL_law_139 rfl ?_
  refine zz_aload_n (pc := 140) E dL_law_140 rfl ?_
  refine zz_iload_n (pc := 141) E dL_law_141 rfl ?_
  refine zz_iconst (pc := 142) (v := nI 1) E dL_law_142 (by decide) ?_
  refine zz_iadd (pc := 143) E dL_law_143 ?_
  refine zz_sld (pc := 144) E hX (i + 1) (nI_add i 1) (by omega) dL_law_144 ?_
  refine zz_aload_n (pc := 145) E dL_law_145 rfl ?_
  refine zz_iload_n (pc := 146) E dL_law_146 rfl ?_
  refine zz_iconst (pc := 147) (v := nI 2) E dL_law_147 (by decide) ?_
  refine zz_iadd (pc := 148) E dL_law_148 ?_
  refine zz_sld (pc := 149) E hX (i + 2) (nI_add i 2) (by omega) dL_law_149 ?_
  refine zz_aload_n (pc := 150) E dL_law_150 rfl ?_
  refine zz_iload_n (pc := 151) E dL_law_151 rfl ?_
  refine zz_iconst (pc := 152) (v := nI 3) E dL_law_152 (by decide) ?_
  refine zz_iadd (pc := 153) E dL_law_153 ?_
  refine zz_sld (pc := 154) E hX (i + 3) (nI_add i 3) (by omega) dL_law_154 ?_
  refine zz_ciV (pc := 155) E 100 (kkX8_rule l G E.2.2.2.2.2.1 _ S hs _ _ _ hJ1) (cwV 3 E.2.2.2.2.1 gL_law_X8_rule rfl rfl rfl (by decide +kernel) ⟨Nat.le_of_ble_eq_true rfl, Nat.le_of_ble_eq_true rfl⟩) (by decide) rfl rfl rfl rfl (Nat.le_of_ble_eq_true rfl) dL_law_155 (fun r1 M1 h1 => ?_)
  obtain ⟨f1, e1, g1⟩ := h1
  exact zz_icmp_eq (tgt := 696) (pc := 158) E dL_law_158 (by decide) (fun _ => go _ _ _ (zI_hi g0 f1) g1) (fun h => absurd (e0.trans e1.symm) h)

set_option maxHeartbeats 1000000 in
set_option maxRecDepth 20000 in
theorem zL_ofRule {p : Program} {l : Launch} {e : Env} {s : State} {m : MethodId} {args : Array Value} {below : List Frame} {meth : Method} {c : Code} {cells slots : Nat} {Q : State → Prop} {G : zz_C} {A : Nat → Prop} {M : zz_M} {b L i : Nat} {xs : Nat → Int32} {S : Nat → Option Nat} {hs : List (Nat → Option Nat)} (E : zz_E p room_1 s m args c cells slots cL_law 4 wsL_law RL G A) (hX : zX s A b L xs) (hi : i + 5 ≤ L) (hI : zI M S hs) (hJ : zJ M S hs) (go : ∀ (M' : zz_M) (S' : Nat → Option Nat) (hs' : List (Nat → Option Nat)), zI M' S' hs' → zJ M' S' hs' → zz_Z p l e room_1 s m args below meth c cells slots Q 4 G A M' 696 [(0, .ref b), (1, .ref (G.2.2 0)), (2, .ref (G.2.2 100)), (3, .int (nI i))] []) : zz_Z p l e room_1 s m args below meth c cells slots Q 4 G A M 163 [(0, .ref b), (1, .ref (G.2.2 0)), (2, .ref (G.2.2 100)), (3, .int (nI i))] [] := by
  refine zz_aload_n (pc := 163) E dL_law_163 rfl ?_
  refine zz_aload_n (pc := 164) E dL_law_164 rfl ?_
  refine zz_iload_n (pc := 165) E dL_law_165 rfl ?_
  refine zz_iconst (pc := 166) (v := nI 1) E dL_law_166 (by decide) ?_
  refine zz_iadd (pc := 167) E dL_law_167 ?_
  refine zz_sld (pc := 168) E hX (i + 1) (nI_add i 1) (by omega) dL_law_168 ?_
  refine zz_aload_n (pc := 169) E dL_law_169 rfl ?_
  refine zz_iload_n (pc := 170) E dL_law_170 rfl ?_
  refine zz_iconst (pc := 171) (v := nI 2) E dL_law_171 (by decide) ?_
  refine zz_iadd (pc := 172) E dL_law_172 ?_
  refine zz_sld (pc := 173) E hX (i + 2) (nI_add i 2) (by omega) dL_law_173 ?_
  refine zz_ciV (pc := 174) E 0 (kkX7_ofRule l G E.2.2.2.2.2.1 _ S hs _ _ hI) (cwV 2 E.2.2.2.2.1 gL_law_X7_ofRule rfl rfl rfl (by decide +kernel) ⟨Nat.le_of_ble_eq_true rfl, Nat.le_of_ble_eq_true rfl⟩) (by decide) rfl rfl rfl rfl (Nat.le_of_ble_eq_true rfl) dL_law_174 (fun r0 M0 h0 => ?_)
  obtain ⟨f0, g0, e0⟩ := h0
  have hJ1 := zJ_lo hJ f0
  refine zz_aload_n (pc := 177) E dL_law_177 rfl ?_
  refine zz_aload_n (pc := 178) E dL_law_178 rfl ?_
  refine zz_iload_n (pc := 179) E dL_law_179 rfl ?_
  refine zz_iconst (pc := 180) (v := nI 1) E dL_law_180 (by decide) ?_
  refine zz_iadd (pc := 181) E dL_law_181 ?_
  refine zz_sld (pc := 182) E hX (i + 1) (nI_add i 1) (by omega) dL_law_182 ?_
  refine zz_aload_n (pc := 183) E dL_law_183 rfl ?_
  refine zz_iload_n (pc := 184) E dL_law_184 rfl ?_
  refine zz_iconst (pc := 185) (v := nI 2) E dL_law_185 (by decide) ?_
  refine zz_iadd (pc := 186) E dL_law_186 ?_
  refine zz_sld (pc := 187) E hX (i + 2) (nI_add i 2) (by omega) dL_law_187 ?_
  refine zz_ciV (pc := 188) E 100 (kkX8_ofRule l G E.2.2.2.2.2.1 _ S hs _ _ hJ1) (cwV 2 E.2.2.2.2.1 gL_law_X8_ofRule rfl rfl rfl (by decide +kernel) ⟨Nat.le_of_ble_eq_true rfl, Nat.le_of_ble_eq_true rfl⟩) (by decide) rfl rfl rfl rfl (Nat.le_of_ble_eq_true rfl) dL_law_188 (fun r1 M1 h1 => ?_)
  obtain ⟨f1, g1, e1⟩ := h1
  exact zz_icmp_eq (tgt := 696) (pc := 191) E dL_law_191 (by decide) (fun _ => go _ _ _ (zI_hi g0 f1) g1) (fun h => absurd (e0.trans e1.symm) h)

set_option maxHeartbeats 1000000 in
set_option maxRecDepth 20000 in
theorem zL_read {p : Program} {l : Launch} {e : Env} {s : State} {m : MethodId} {args : Array Value} {below : List Frame} {meth : Method} {c : Code} {cells slots : Nat} {Q : State → Prop} {G : zz_C} {A : Nat → Prop} {M : zz_M} {b L i : Nat} {xs : Nat → Int32} {S : Nat → Option Nat} {hs : List (Nat → Option Nat)} (E : zz_E p room_1 s m args c cells slots cL_law 4 wsL_law RL G A) (hX : zX s A b L xs) (hi : i + 5 ≤ L) (hI : zI M S hs) (hJ : zJ M S hs) (go : ∀ (M' : zz_M) (S' : Nat → Option Nat) (hs' : List (Nat → Option Nat)), zI M' S' hs' → zJ M' S' hs' → zz_Z p l e room_1 s m args below meth c cells slots Q 4 G A M' 696 [(0, .ref b), (1, .ref (G.2.2 0)), (2, .ref (G.2.2 100)), (3, .int (nI i))] []) : zz_Z p l e room_1 s m args below meth c cells slots Q 4 G A M 196 [(0, .ref b), (1, .ref (G.2.2 0)), (2, .ref (G.2.2 100)), (3, .int (nI i))] [] := by
  refine zz_aload_n (pc := 196) E dL_law_196 rfl ?_
  refine zz_aload_n (pc := 197) E dL_law_197 rfl ?_
  refine zz_iload_n (pc := 198) E dL_law_198 rfl ?_
  refine zz_iconst (pc := 199) (v := nI 1) E dL_law_199 (by decide) ?_
  refine zz_iadd (pc := 200) E dL_law_200 ?_
  refine zz_sld (pc := 201) E hX (i + 1) (nI_add i 1) (by omega) dL_law_201 ?_
  refine zz_aload_n (pc := 202) E dL_law_202 rfl ?_
  refine zz_iload_n (pc := 203) E dL_law_203 rfl ?_
  refine zz_iconst (pc := 204) (v := nI 2) E dL_law_204 (by decide) ?_
  refine zz_iadd (pc := 205) E dL_law_205 ?_
  refine zz_sld (pc := 206) E hX (i + 2) (nI_add i 2) (by omega) dL_law_206 ?_
  refine zz_i2l (pc := 207) E dL_law_207 rfl ?_
  refine zz_bipush (pc := 208) (v := 32) E dL_law_208 (by decide) ?_
  refine zz_lshl (pc := 210) E dL_law_210 rfl ?_
  refine zz_aload_n (pc := 211) E dL_law_211 rfl ?_
  refine zz_iload_n (pc := 212) E dL_law_212 rfl ?_
  refine zz_iconst (pc := 213) (v := nI 3) E dL_law_213 (by decide) ?_
  refine zz_iadd (pc := 214) E dL_law_214 ?_
  refine zz_sld (pc := 215) E hX (i + 3) (nI_add i 3) (by omega) dL_law_215 ?_
  refine zz_i2l (pc := 216) E dL_law_216 rfl ?_
  refine zz_ldc2 (pc := 217) (v := 4294967295) E (by decide +kernel) dL_law_217 ?_
  refine zz_land (pc := 220) E dL_law_220 ?_
  refine zz_lor (pc := 221) E dL_law_221 ?_
  refine zz_aload_n (pc := 222) E dL_law_222 rfl ?_
  refine zz_iload_n (pc := 223) E dL_law_223 rfl ?_
  refine zz_iconst (pc := 224) (v := nI 4) E dL_law_224 (by decide) ?_
  refine zz_iadd (pc := 225) E dL_law_225 ?_
  refine zz_sld (pc := 226) E hX (i + 4) (nI_add i 4) (by omega) dL_law_226 ?_
  refine zz_ciV (pc := 227) E 0 (kkX7_read l G E.2.2.2.2.2.1 _ S hs _ _ _ hI) (cwV 3 E.2.2.2.2.1 gL_law_X7_read rfl rfl rfl (by decide +kernel) ⟨Nat.le_of_ble_eq_true rfl, Nat.le_of_ble_eq_true rfl⟩) (by decide) rfl rfl rfl rfl (Nat.le_of_ble_eq_true rfl) dL_law_227 (fun r0 M0 h0 => ?_)
  obtain ⟨f0, g0, e0⟩ := h0
  have hJ1 := zJ_lo hJ f0
  refine zz_aload_n (pc := 230) E dL_law_230 rfl ?_
  refine zz_aload_n (pc := 231) E dL_law_231 rfl ?_
  refine zz_iload_n (pc := 232) E dL_law_232 rfl ?_
  refine zz_iconst (pc := 233) (v := nI 1) E dL_law_233 (by decide) ?_
  refine zz_iadd (pc := 234) E dL_law_234 ?_
  refine zz_sld (pc := 235) E hX (i + 1) (nI_add i 1) (by omega) dL_law_235 ?_
  refine zz_aload_n (pc := 236) E dL_law_236 rfl ?_
  refine zz_iload_n (pc := 237) E dL_law_237 rfl ?_
  refine zz_iconst (pc := 238) (v := nI 2) E dL_law_238 (by decide) ?_
  refine zz_iadd (pc := 239) E dL_law_239 ?_
  refine zz_sld (pc := 240) E hX (i + 2) (nI_add i 2) (by omega) dL_law_240 ?_
  refine zz_i2l (pc := 241) E dL_law_241 rfl ?_
  refine zz_bipush (pc := 242) (v := 32) E dL_law_242 (by decide) ?_
  refine zz_lshl (pc := 244) E dL_law_244 rfl ?_
  refine zz_aload_n (pc := 245) E dL_law_245 rfl ?_
  refine zz_iload_n (pc := 246) E dL_law_246 rfl ?_
  refine zz_iconst (pc := 247) (v := nI 3) E dL_law_247 (by decide) ?_
  refine zz_iadd (pc := 248) E dL_law_248 ?_
  refine zz_sld (pc := 249) E hX (i + 3) (nI_add i 3) (by omega) dL_law_249 ?_
  refine zz_i2l (pc := 250) E dL_law_250 rfl ?_
  refine zz_ldc2 (pc := 251) (v := 4294967295) E (by decide +kernel) dL_law_251 ?_
  refine zz_land (pc := 254) E dL_law_254 ?_
  refine zz_lor (pc := 255) E dL_law_255 ?_
  refine zz_aload_n (pc := 256) E dL_law_256 rfl ?_
  refine zz_iload_n (pc := 257) E dL_law_257 rfl ?_
  refine zz_iconst (pc := 258) (v := nI 4) E dL_law_258 (by decide) ?_
  refine zz_iadd (pc := 259) E dL_law_259 ?_
  refine zz_sld (pc := 260) E hX (i + 4) (nI_add i 4) (by omega) dL_law_260 ?_
  refine zz_ciV (pc := 261) E 100 (kkX8_read l G E.2.2.2.2.2.1 _ S hs _ _ _ hJ1) (cwV 3 E.2.2.2.2.1 gL_law_X8_read rfl rfl rfl (by decide +kernel) ⟨Nat.le_of_ble_eq_true rfl, Nat.le_of_ble_eq_true rfl⟩) (by decide) rfl rfl rfl rfl (Nat.le_of_ble_eq_true rfl) dL_law_261 (fun r1 M1 h1 => ?_)
  obtain ⟨f1, g1, e1⟩ := h1
  exact zz_icmp_eq (tgt := 696) (pc := 264) E dL_law_264 (by decide) (fun _ => go _ _ _ (zI_hi g0 f1) g1) (fun h => absurd (e0.trans e1.symm) h)

set_option maxHeartbeats 1000000 in
set_option maxRecDepth 20000 in
theorem zL_norm {p : Program} {l : Launch} {e : Env} {s : State} {m : MethodId} {args : Array Value} {below : List Frame} {meth : Method} {c : Code} {cells slots : Nat} {Q : State → Prop} {G : zz_C} {A : Nat → Prop} {M : zz_M} {b L i : Nat} {xs : Nat → Int32} {S : Nat → Option Nat} {hs : List (Nat → Option Nat)} (E : zz_E p room_1 s m args c cells slots cL_law 4 wsL_law RL G A) (hX : zX s A b L xs) (hi : i + 5 ≤ L) (hI : zI M S hs) (hJ : zJ M S hs) (go : ∀ (M' : zz_M) (S' : Nat → Option Nat) (hs' : List (Nat → Option Nat)), zI M' S' hs' → zJ M' S' hs' → zz_Z p l e room_1 s m args below meth c cells slots Q 4 G A M' 696 [(0, .ref b), (1, .ref (G.2.2 0)), (2, .ref (G.2.2 100)), (3, .int (nI i))] []) : zz_Z p l e room_1 s m args below meth c cells slots Q 4 G A M 269 [(0, .ref b), (1, .ref (G.2.2 0)), (2, .ref (G.2.2 100)), (3, .int (nI i))] [] := by
  refine zz_aload_n (pc := 269) E dL_law_269 rfl ?_
  refine zz_aload_n (pc := 270) E dL_law_270 rfl ?_
  refine zz_iload_n (pc := 271) E dL_law_271 rfl ?_
  refine zz_iconst (pc := 272) (v := nI 1) E dL_law_272 (by decide) ?_
  refine zz_iadd (pc := 273) E dL_law_273 ?_
  refine zz_sld (pc := 274) E hX (i + 1) (nI_add i 1) (by omega) dL_law_274 ?_
  refine zz_ciV (pc := 275) E 0 (kkX7_norm l G E.2.2.2.2.2.1 _ S hs _ hI) (cwV 1 E.2.2.2.2.1 gL_law_X7_norm rfl rfl rfl (by decide +kernel) ⟨Nat.le_of_ble_eq_true rfl, Nat.le_of_ble_eq_true rfl⟩) (by decide) rfl rfl rfl rfl (Nat.le_of_ble_eq_true rfl) dL_law_275 (fun r0 M0 h0 => ?_)
  obtain ⟨f0, g0, e0⟩ := h0
  have hJ1 := zJ_lo hJ f0
  refine zz_aload_n (pc := 278) E dL_law_278 rfl ?_
  refine zz_aload_n (pc := 279) E dL_law_279 rfl ?_
  refine zz_iload_n (pc := 280) E dL_law_280 rfl ?_
  refine zz_iconst (pc := 281) (v := nI 1) E dL_law_281 (by decide) ?_
  refine zz_iadd (pc := 282) E dL_law_282 ?_
  refine zz_sld (pc := 283) E hX (i + 1) (nI_add i 1) (by omega) dL_law_283 ?_
  refine zz_ciV (pc := 284) E 100 (kkX8_norm l G E.2.2.2.2.2.1 _ S hs _ hJ1) (cwV 1 E.2.2.2.2.1 gL_law_X8_norm rfl rfl rfl (by decide +kernel) ⟨Nat.le_of_ble_eq_true rfl, Nat.le_of_ble_eq_true rfl⟩) (by decide) rfl rfl rfl rfl (Nat.le_of_ble_eq_true rfl) dL_law_284 (fun r1 M1 h1 => ?_)
  obtain ⟨f1, g1, e1⟩ := h1
  exact zz_icmp_eq (tgt := 696) (pc := 287) E dL_law_287 (by decide) (fun _ => go _ _ _ (zI_hi g0 f1) g1) (fun h => absurd (e0.trans e1.symm) h)

set_option maxHeartbeats 1000000 in
set_option maxRecDepth 20000 in
theorem zL_least {p : Program} {l : Launch} {e : Env} {s : State} {m : MethodId} {args : Array Value} {below : List Frame} {meth : Method} {c : Code} {cells slots : Nat} {Q : State → Prop} {G : zz_C} {A : Nat → Prop} {M : zz_M} {b L i : Nat} {xs : Nat → Int32} {S : Nat → Option Nat} {hs : List (Nat → Option Nat)} (E : zz_E p room_1 s m args c cells slots cL_law 4 wsL_law RL G A) (hX : zX s A b L xs) (hi : i + 5 ≤ L) (hI : zI M S hs) (hJ : zJ M S hs) (go : ∀ (M' : zz_M) (S' : Nat → Option Nat) (hs' : List (Nat → Option Nat)), zI M' S' hs' → zJ M' S' hs' → zz_Z p l e room_1 s m args below meth c cells slots Q 4 G A M' 696 [(0, .ref b), (1, .ref (G.2.2 0)), (2, .ref (G.2.2 100)), (3, .int (nI i))] []) : zz_Z p l e room_1 s m args below meth c cells slots Q 4 G A M 292 [(0, .ref b), (1, .ref (G.2.2 0)), (2, .ref (G.2.2 100)), (3, .int (nI i))] [] := by
  refine zz_aload_n (pc := 292) E dL_law_292 rfl ?_
  refine zz_aload_n (pc := 293) E dL_law_293 rfl ?_
  refine zz_iload_n (pc := 294) E dL_law_294 rfl ?_
  refine zz_iconst (pc := 295) (v := nI 1) E dL_law_295 (by decide) ?_
  refine zz_iadd (pc := 296) E dL_law_296 ?_
  refine zz_sld (pc := 297) E hX (i + 1) (nI_add i 1) (by omega) dL_law_297 ?_
  refine zz_clV (pc := 298) E 0 (kkX7_least l G E.2.2.2.2.2.1 _ S hs _ hI) (cwV 1 E.2.2.2.2.1 gL_law_X7_least rfl rfl rfl (by decide +kernel) ⟨Nat.le_of_ble_eq_true rfl, Nat.le_of_ble_eq_true rfl⟩) (by decide) rfl rfl rfl rfl (Nat.le_of_ble_eq_true rfl) dL_law_298 (fun r0 M0 h0 => ?_)
  obtain ⟨f0, g0, e0⟩ := h0
  have hJ1 := zJ_lo hJ f0
  refine zz_aload_n (pc := 301) E dL_law_301 rfl ?_
  refine zz_aload_n (pc := 302) E dL_law_302 rfl ?_
  refine zz_iload_n (pc := 303) E dL_law_303 rfl ?_
  refine zz_iconst (pc := 304) (v := nI 1) E dL_law_304 (by decide) ?_
  refine zz_iadd (pc := 305) E dL_law_305 ?_
  refine zz_sld (pc := 306) E hX (i + 1) (nI_add i 1) (by omega) dL_law_306 ?_
  refine zz_clV (pc := 307) E 100 (kkX8_least l G E.2.2.2.2.2.1 _ S hs _ hJ1) (cwV 1 E.2.2.2.2.1 gL_law_X8_least rfl rfl rfl (by decide +kernel) ⟨Nat.le_of_ble_eq_true rfl, Nat.le_of_ble_eq_true rfl⟩) (by decide) rfl rfl rfl rfl (Nat.le_of_ble_eq_true rfl) dL_law_307 (fun r1 M1 h1 => ?_)
  obtain ⟨f1, g1, e1⟩ := h1
  refine zz_lcmp (pc := 310) E dL_law_310 ?_
  exact zz_if_eq (tgt := 696) (pc := 311) E dL_law_311 (by decide) (fun _ => go _ _ _ (zI_hi g0 f1) g1) (fun h => absurd ((lg_cmp_eq _ _).mpr (e0.trans e1.symm)) h)

set_option maxHeartbeats 1000000 in
set_option maxRecDepth 20000 in
theorem zL_words {p : Program} {l : Launch} {e : Env} {s : State} {m : MethodId} {args : Array Value} {below : List Frame} {meth : Method} {c : Code} {cells slots : Nat} {Q : State → Prop} {G : zz_C} {A : Nat → Prop} {M : zz_M} {b L i : Nat} {xs : Nat → Int32} {S : Nat → Option Nat} {hs : List (Nat → Option Nat)} (E : zz_E p room_1 s m args c cells slots cL_law 4 wsL_law RL G A) (hX : zX s A b L xs) (hi : i + 5 ≤ L) (hI : zI M S hs) (hJ : zJ M S hs) (go : ∀ (M' : zz_M) (S' : Nat → Option Nat) (hs' : List (Nat → Option Nat)), zI M' S' hs' → zJ M' S' hs' → zz_Z p l e room_1 s m args below meth c cells slots Q 4 G A M' 696 [(0, .ref b), (1, .ref (G.2.2 0)), (2, .ref (G.2.2 100)), (3, .int (nI i))] []) : zz_Z p l e room_1 s m args below meth c cells slots Q 4 G A M 316 [(0, .ref b), (1, .ref (G.2.2 0)), (2, .ref (G.2.2 100)), (3, .int (nI i))] [] := by
  refine zz_aload_n (pc := 316) E dL_law_316 rfl ?_
  refine zz_aload_n (pc := 317) E dL_law_317 rfl ?_
  refine zz_iload_n (pc := 318) E dL_law_318 rfl ?_
  refine zz_iconst (pc := 319) (v := nI 1) E dL_law_319 (by decide) ?_
  refine zz_iadd (pc := 320) E dL_law_320 ?_
  refine zz_sld (pc := 321) E hX (i + 1) (nI_add i 1) (by omega) dL_law_321 ?_
  refine zz_aload_n (pc := 322) E dL_law_322 rfl ?_
  refine zz_iload_n (pc := 323) E dL_law_323 rfl ?_
  refine zz_iconst (pc := 324) (v := nI 2) E dL_law_324 (by decide) ?_
  refine zz_iadd (pc := 325) E dL_law_325 ?_
  refine zz_sld (pc := 326) E hX (i + 2) (nI_add i 2) (by omega) dL_law_326 ?_
  refine zz_ciV (pc := 327) E 0 (kkX7_words l G E.2.2.2.2.2.1 _ S hs _ _ hI) (cwV 2 E.2.2.2.2.1 gL_law_X7_words rfl rfl rfl (by decide +kernel) ⟨Nat.le_of_ble_eq_true rfl, Nat.le_of_ble_eq_true rfl⟩) (by decide) rfl rfl rfl rfl (Nat.le_of_ble_eq_true rfl) dL_law_327 (fun r0 M0 h0 => ?_)
  obtain ⟨f0, g0, e0⟩ := h0
  have hJ1 := zJ_lo hJ f0
  refine zz_aload_n (pc := 330) E dL_law_330 rfl ?_
  refine zz_aload_n (pc := 331) E dL_law_331 rfl ?_
  refine zz_iload_n (pc := 332) E dL_law_332 rfl ?_
  refine zz_iconst (pc := 333) (v := nI 1) E dL_law_333 (by decide) ?_
  refine zz_iadd (pc := 334) E dL_law_334 ?_
  refine zz_sld (pc := 335) E hX (i + 1) (nI_add i 1) (by omega) dL_law_335 ?_
  refine zz_aload_n (pc := 336) E dL_law_336 rfl ?_
  refine zz_iload_n (pc := 337) E dL_law_337 rfl ?_
  refine zz_iconst (pc := 338) (v := nI 2) E dL_law_338 (by decide) ?_
  refine zz_iadd (pc := 339) E dL_law_339 ?_
  refine zz_sld (pc := 340) E hX (i + 2) (nI_add i 2) (by omega) dL_law_340 ?_
  refine zz_ciV (pc := 341) E 100 (kkX8_words l G E.2.2.2.2.2.1 _ S hs _ _ hJ1) (cwV 2 E.2.2.2.2.1 gL_law_X8_words rfl rfl rfl (by decide +kernel) ⟨Nat.le_of_ble_eq_true rfl, Nat.le_of_ble_eq_true rfl⟩) (by decide) rfl rfl rfl rfl (Nat.le_of_ble_eq_true rfl) dL_law_341 (fun r1 M1 h1 => ?_)
  obtain ⟨f1, g1, e1⟩ := h1
  exact zz_icmp_eq (tgt := 696) (pc := 344) E dL_law_344 (by decide) (fun _ => go _ _ _ (zI_hi g0 f1) g1) (fun h => absurd (e0.trans e1.symm) h)

set_option maxHeartbeats 1000000 in
set_option maxRecDepth 20000 in
theorem zL_parts {p : Program} {l : Launch} {e : Env} {s : State} {m : MethodId} {args : Array Value} {below : List Frame} {meth : Method} {c : Code} {cells slots : Nat} {Q : State → Prop} {G : zz_C} {A : Nat → Prop} {M : zz_M} {b L i : Nat} {xs : Nat → Int32} {S : Nat → Option Nat} {hs : List (Nat → Option Nat)} (E : zz_E p room_1 s m args c cells slots cL_law 4 wsL_law RL G A) (hX : zX s A b L xs) (hi : i + 5 ≤ L) (hI : zI M S hs) (hJ : zJ M S hs) (go : ∀ (M' : zz_M) (S' : Nat → Option Nat) (hs' : List (Nat → Option Nat)), zI M' S' hs' → zJ M' S' hs' → zz_Z p l e room_1 s m args below meth c cells slots Q 4 G A M' 696 [(0, .ref b), (1, .ref (G.2.2 0)), (2, .ref (G.2.2 100)), (3, .int (nI i))] []) : zz_Z p l e room_1 s m args below meth c cells slots Q 4 G A M 349 [(0, .ref b), (1, .ref (G.2.2 0)), (2, .ref (G.2.2 100)), (3, .int (nI i))] [] := by
  refine zz_aload_n (pc := 349) E dL_law_349 rfl ?_
  refine zz_aload_n (pc := 350) E dL_law_350 rfl ?_
  refine zz_iload_n (pc := 351) E dL_law_351 rfl ?_
  refine zz_iconst (pc := 352) (v := nI 1) E dL_law_352 (by decide) ?_
  refine zz_iadd (pc := 353) E dL_law_353 ?_
  refine zz_sld (pc := 354) E hX (i + 1) (nI_add i 1) (by omega) dL_law_354 ?_
  refine zz_aload_n (pc := 355) E dL_law_355 rfl ?_
  refine zz_iload_n (pc := 356) E dL_law_356 rfl ?_
  refine zz_iconst (pc := 357) (v := nI 2) E dL_law_357 (by decide) ?_
  refine zz_iadd (pc := 358) E dL_law_358 ?_
  refine zz_sld (pc := 359) E hX (i + 2) (nI_add i 2) (by omega) dL_law_359 ?_
  refine zz_aload_n (pc := 360) E dL_law_360 rfl ?_
  refine zz_iload_n (pc := 361) E dL_law_361 rfl ?_
  refine zz_iconst (pc := 362) (v := nI 3) E dL_law_362 (by decide) ?_
  refine zz_iadd (pc := 363) E dL_law_363 ?_
  refine zz_sld (pc := 364) E hX (i + 3) (nI_add i 3) (by omega) dL_law_364 ?_
  refine zz_clV (pc := 365) E 0 (kkX7_parts l G E.2.2.2.2.2.1 _ S hs _ _ _ hI) (cwV 3 E.2.2.2.2.1 gL_law_X7_parts rfl rfl rfl (by decide +kernel) ⟨Nat.le_of_ble_eq_true rfl, Nat.le_of_ble_eq_true rfl⟩) (by decide) rfl rfl rfl rfl (Nat.le_of_ble_eq_true rfl) dL_law_365 (fun r0 M0 h0 => ?_)
  obtain ⟨f0, g0, e0⟩ := h0
  have hJ1 := zJ_lo hJ f0
  refine zz_aload_n (pc := 368) E dL_law_368 rfl ?_
  refine zz_aload_n (pc := 369) E dL_law_369 rfl ?_
  refine zz_iload_n (pc := 370) E dL_law_370 rfl ?_
  refine zz_iconst (pc := 371) (v := nI 1) E dL_law_371 (by decide) ?_
  refine zz_iadd (pc := 372) E dL_law_372 ?_
  refine zz_sld (pc := 373) E hX (i + 1) (nI_add i 1) (by omega) dL_law_373 ?_
  refine zz_aload_n (pc := 374) E dL_law_374 rfl ?_
  refine zz_iload_n (pc := 375) E dL_law_375 rfl ?_
  refine zz_iconst (pc := 376) (v := nI 2) E dL_law_376 (by decide) ?_
  refine zz_iadd (pc := 377) E dL_law_377 ?_
  refine zz_sld (pc := 378) E hX (i + 2) (nI_add i 2) (by omega) dL_law_378 ?_
  refine zz_aload_n (pc := 379) E dL_law_379 rfl ?_
  refine zz_iload_n (pc := 380) E dL_law_380 rfl ?_
  refine zz_iconst (pc := 381) (v := nI 3) E dL_law_381 (by decide) ?_
  refine zz_iadd (pc := 382) E dL_law_382 ?_
  refine zz_sld (pc := 383) E hX (i + 3) (nI_add i 3) (by omega) dL_law_383 ?_
  refine zz_clV (pc := 384) E 100 (kkX8_parts l G E.2.2.2.2.2.1 _ S hs _ _ _ hJ1) (cwV 3 E.2.2.2.2.1 gL_law_X8_parts rfl rfl rfl (by decide +kernel) ⟨Nat.le_of_ble_eq_true rfl, Nat.le_of_ble_eq_true rfl⟩) (by decide) rfl rfl rfl rfl (Nat.le_of_ble_eq_true rfl) dL_law_384 (fun r1 M1 h1 => ?_)
  obtain ⟨f1, g1, e1⟩ := h1
  refine zz_lcmp (pc := 387) E dL_law_387 ?_
  exact zz_if_eq (tgt := 696) (pc := 388) E dL_law_388 (by decide) (fun _ => go _ _ _ (zI_hi g0 f1) g1) (fun h => absurd ((lg_cmp_eq _ _).mpr (e0.trans e1.symm)) h)

set_option maxHeartbeats 1000000 in
set_option maxRecDepth 20000 in
theorem zL_firsts {p : Program} {l : Launch} {e : Env} {s : State} {m : MethodId} {args : Array Value} {below : List Frame} {meth : Method} {c : Code} {cells slots : Nat} {Q : State → Prop} {G : zz_C} {A : Nat → Prop} {M : zz_M} {b L i : Nat} {xs : Nat → Int32} {S : Nat → Option Nat} {hs : List (Nat → Option Nat)} (E : zz_E p room_1 s m args c cells slots cL_law 4 wsL_law RL G A) (hX : zX s A b L xs) (hi : i + 5 ≤ L) (hI : zI M S hs) (hJ : zJ M S hs) (go : ∀ (M' : zz_M) (S' : Nat → Option Nat) (hs' : List (Nat → Option Nat)), zI M' S' hs' → zJ M' S' hs' → zz_Z p l e room_1 s m args below meth c cells slots Q 4 G A M' 696 [(0, .ref b), (1, .ref (G.2.2 0)), (2, .ref (G.2.2 100)), (3, .int (nI i))] []) : zz_Z p l e room_1 s m args below meth c cells slots Q 4 G A M 393 [(0, .ref b), (1, .ref (G.2.2 0)), (2, .ref (G.2.2 100)), (3, .int (nI i))] [] := by
  refine zz_aload_n (pc := 393) E dL_law_393 rfl ?_
  refine zz_aload_n (pc := 394) E dL_law_394 rfl ?_
  refine zz_iload_n (pc := 395) E dL_law_395 rfl ?_
  refine zz_iconst (pc := 396) (v := nI 1) E dL_law_396 (by decide) ?_
  refine zz_iadd (pc := 397) E dL_law_397 ?_
  refine zz_sld (pc := 398) E hX (i + 1) (nI_add i 1) (by omega) dL_law_398 ?_
  refine zz_ciV (pc := 399) E 0 (kkX7_firsts l G E.2.2.2.2.2.1 _ S hs _ hI) (cwV 1 E.2.2.2.2.1 gL_law_X7_firsts rfl rfl rfl (by decide +kernel) ⟨Nat.le_of_ble_eq_true rfl, Nat.le_of_ble_eq_true rfl⟩) (by decide) rfl rfl rfl rfl (Nat.le_of_ble_eq_true rfl) dL_law_399 (fun r0 M0 h0 => ?_)
  obtain ⟨f0, g0, e0⟩ := h0
  have hJ1 := zJ_lo hJ f0
  refine zz_aload_n (pc := 402) E dL_law_402 rfl ?_
  refine zz_aload_n (pc := 403) E dL_law_403 rfl ?_
  refine zz_iload_n (pc := 404) E dL_law_404 rfl ?_
  refine zz_iconst (pc := 405) (v := nI 1) E dL_law_405 (by decide) ?_
  refine zz_iadd (pc := 406) E dL_law_406 ?_
  refine zz_sld (pc := 407) E hX (i + 1) (nI_add i 1) (by omega) dL_law_407 ?_
  refine zz_ciV (pc := 408) E 100 (kkX8_firsts l G E.2.2.2.2.2.1 _ S hs _ hJ1) (cwV 1 E.2.2.2.2.1 gL_law_X8_firsts rfl rfl rfl (by decide +kernel) ⟨Nat.le_of_ble_eq_true rfl, Nat.le_of_ble_eq_true rfl⟩) (by decide) rfl rfl rfl rfl (Nat.le_of_ble_eq_true rfl) dL_law_408 (fun r1 M1 h1 => ?_)
  obtain ⟨f1, g1, e1⟩ := h1
  exact zz_icmp_eq (tgt := 696) (pc := 411) E dL_law_411 (by decide) (fun _ => go _ _ _ (zI_hi g0 f1) g1) (fun h => absurd (e0.trans e1.symm) h)

set_option maxHeartbeats 1000000 in
set_option maxRecDepth 20000 in
theorem zL_claim {p : Program} {l : Launch} {e : Env} {s : State} {m : MethodId} {args : Array Value} {below : List Frame} {meth : Method} {c : Code} {cells slots : Nat} {Q : State → Prop} {G : zz_C} {A : Nat → Prop} {M : zz_M} {b L i : Nat} {xs : Nat → Int32} {S : Nat → Option Nat} {hs : List (Nat → Option Nat)} (E : zz_E p room_1 s m args c cells slots cL_law 4 wsL_law RL G A) (hX : zX s A b L xs) (hi : i + 5 ≤ L) (hI : zI M S hs) (hJ : zJ M S hs) (go : ∀ (M' : zz_M) (S' : Nat → Option Nat) (hs' : List (Nat → Option Nat)), zI M' S' hs' → zJ M' S' hs' → zz_Z p l e room_1 s m args below meth c cells slots Q 4 G A M' 696 [(0, .ref b), (1, .ref (G.2.2 0)), (2, .ref (G.2.2 100)), (3, .int (nI i))] []) : zz_Z p l e room_1 s m args below meth c cells slots Q 4 G A M 416 [(0, .ref b), (1, .ref (G.2.2 0)), (2, .ref (G.2.2 100)), (3, .int (nI i))] [] := by
  refine zz_aload_n (pc := 416) E dL_law_416 rfl ?_
  refine zz_aload_n (pc := 417) E dL_law_417 rfl ?_
  refine zz_iload_n (pc := 418) E dL_law_418 rfl ?_
  refine zz_iconst (pc := 419) (v := nI 1) E dL_law_419 (by decide) ?_
  refine zz_iadd (pc := 420) E dL_law_420 ?_
  refine zz_sld (pc := 421) E hX (i + 1) (nI_add i 1) (by omega) dL_law_421 ?_
  refine zz_aload_n (pc := 422) E dL_law_422 rfl ?_
  refine zz_iload_n (pc := 423) E dL_law_423 rfl ?_
  refine zz_iconst (pc := 424) (v := nI 2) E dL_law_424 (by decide) ?_
  refine zz_iadd (pc := 425) E dL_law_425 ?_
  refine zz_sld (pc := 426) E hX (i + 2) (nI_add i 2) (by omega) dL_law_426 ?_
  refine zz_ciV (pc := 427) E 0 (kkX7_claim l G E.2.2.2.2.2.1 _ S hs _ _ hI) (cwV 2 E.2.2.2.2.1 gL_law_X7_claim rfl rfl rfl (by decide +kernel) ⟨Nat.le_of_ble_eq_true rfl, Nat.le_of_ble_eq_true rfl⟩) (by decide) rfl rfl rfl rfl (Nat.le_of_ble_eq_true rfl) dL_law_427 (fun r0 M0 h0 => ?_)
  obtain ⟨f0, e0, g0⟩ := h0
  have hJ1 := zJ_lo hJ f0
  refine zz_aload_n (pc := 430) E dL_law_430 rfl ?_
  refine zz_aload_n (pc := 431) E dL_law_431 rfl ?_
  refine zz_iload_n (pc := 432) E dL_law_432 rfl ?_
  refine zz_iconst (pc := 433) (v := nI 1) E dL_law_433 (by decide) ?_
  refine zz_iadd (pc := 434) E dL_law_434 ?_
  refine zz_sld (pc := 435) E hX (i + 1) (nI_add i 1) (by omega) dL_law_435 ?_
  refine zz_aload_n (pc := 436) E dL_law_436 rfl ?_
  refine zz_iload_n (pc := 437) E dL_law_437 rfl ?_
  refine zz_iconst (pc := 438) (v := nI 2) E dL_law_438 (by decide) ?_
  refine zz_iadd (pc := 439) E dL_law_439 ?_
  refine zz_sld (pc := 440) E hX (i + 2) (nI_add i 2) (by omega) dL_law_440 ?_
  refine zz_ciV (pc := 441) E 100 (kkX8_claim l G E.2.2.2.2.2.1 _ S hs _ _ hJ1) (cwV 2 E.2.2.2.2.1 gL_law_X8_claim rfl rfl rfl (by decide +kernel) ⟨Nat.le_of_ble_eq_true rfl, Nat.le_of_ble_eq_true rfl⟩) (by decide) rfl rfl rfl rfl (Nat.le_of_ble_eq_true rfl) dL_law_441 (fun r1 M1 h1 => ?_)
  obtain ⟨f1, e1, g1⟩ := h1
  exact zz_icmp_eq (tgt := 696) (pc := 444) E dL_law_444 (by decide) (fun _ => go _ _ _ (zI_hi g0 f1) g1) (fun h => absurd (e0.trans e1.symm) h)

set_option maxHeartbeats 1000000 in
set_option maxRecDepth 20000 in
theorem zL_ofClaim {p : Program} {l : Launch} {e : Env} {s : State} {m : MethodId} {args : Array Value} {below : List Frame} {meth : Method} {c : Code} {cells slots : Nat} {Q : State → Prop} {G : zz_C} {A : Nat → Prop} {M : zz_M} {b L i : Nat} {xs : Nat → Int32} {S : Nat → Option Nat} {hs : List (Nat → Option Nat)} (E : zz_E p room_1 s m args c cells slots cL_law 4 wsL_law RL G A) (hX : zX s A b L xs) (hi : i + 5 ≤ L) (hI : zI M S hs) (hJ : zJ M S hs) (go : ∀ (M' : zz_M) (S' : Nat → Option Nat) (hs' : List (Nat → Option Nat)), zI M' S' hs' → zJ M' S' hs' → zz_Z p l e room_1 s m args below meth c cells slots Q 4 G A M' 696 [(0, .ref b), (1, .ref (G.2.2 0)), (2, .ref (G.2.2 100)), (3, .int (nI i))] []) : zz_Z p l e room_1 s m args below meth c cells slots Q 4 G A M 449 [(0, .ref b), (1, .ref (G.2.2 0)), (2, .ref (G.2.2 100)), (3, .int (nI i))] [] := by
  refine zz_aload_n (pc := 449) E dL_law_449 rfl ?_
  refine zz_aload_n (pc := 450) E dL_law_450 rfl ?_
  refine zz_iload_n (pc := 451) E dL_law_451 rfl ?_
  refine zz_iconst (pc := 452) (v := nI 1) E dL_law_452 (by decide) ?_
  refine zz_iadd (pc := 453) E dL_law_453 ?_
  refine zz_sld (pc := 454) E hX (i + 1) (nI_add i 1) (by omega) dL_law_454 ?_
  refine zz_ciV (pc := 455) E 0 (kkX7_ofClaim l G E.2.2.2.2.2.1 _ S hs _ hI) (cwV 1 E.2.2.2.2.1 gL_law_X7_ofClaim rfl rfl rfl (by decide +kernel) ⟨Nat.le_of_ble_eq_true rfl, Nat.le_of_ble_eq_true rfl⟩) (by decide) rfl rfl rfl rfl (Nat.le_of_ble_eq_true rfl) dL_law_455 (fun r0 M0 h0 => ?_)
  obtain ⟨f0, g0, e0⟩ := h0
  have hJ1 := zJ_lo hJ f0
  refine zz_aload_n (pc := 458) E dL_law_458 rfl ?_
  refine zz_aload_n (pc := 459) E dL_law_459 rfl ?_
  refine zz_iload_n (pc := 460) E dL_law_460 rfl ?_
  refine zz_iconst (pc := 461) (v := nI 1) E dL_law_461 (by decide) ?_
  refine zz_iadd (pc := 462) E dL_law_462 ?_
  refine zz_sld (pc := 463) E hX (i + 1) (nI_add i 1) (by omega) dL_law_463 ?_
  refine zz_ciV (pc := 464) E 100 (kkX8_ofClaim l G E.2.2.2.2.2.1 _ S hs _ hJ1) (cwV 1 E.2.2.2.2.1 gL_law_X8_ofClaim rfl rfl rfl (by decide +kernel) ⟨Nat.le_of_ble_eq_true rfl, Nat.le_of_ble_eq_true rfl⟩) (by decide) rfl rfl rfl rfl (Nat.le_of_ble_eq_true rfl) dL_law_464 (fun r1 M1 h1 => ?_)
  obtain ⟨f1, g1, e1⟩ := h1
  exact zz_icmp_eq (tgt := 696) (pc := 467) E dL_law_467 (by decide) (fun _ => go _ _ _ (zI_hi g0 f1) g1) (fun h => absurd (e0.trans e1.symm) h)

set_option maxHeartbeats 1000000 in
set_option maxRecDepth 20000 in
theorem zL_reduced {p : Program} {l : Launch} {e : Env} {s : State} {m : MethodId} {args : Array Value} {below : List Frame} {meth : Method} {c : Code} {cells slots : Nat} {Q : State → Prop} {G : zz_C} {A : Nat → Prop} {M : zz_M} {b L i : Nat} {xs : Nat → Int32} {S : Nat → Option Nat} {hs : List (Nat → Option Nat)} (E : zz_E p room_1 s m args c cells slots cL_law 4 wsL_law RL G A) (hX : zX s A b L xs) (hi : i + 5 ≤ L) (hI : zI M S hs) (hJ : zJ M S hs) (go : ∀ (M' : zz_M) (S' : Nat → Option Nat) (hs' : List (Nat → Option Nat)), zI M' S' hs' → zJ M' S' hs' → zz_Z p l e room_1 s m args below meth c cells slots Q 4 G A M' 696 [(0, .ref b), (1, .ref (G.2.2 0)), (2, .ref (G.2.2 100)), (3, .int (nI i))] []) : zz_Z p l e room_1 s m args below meth c cells slots Q 4 G A M 472 [(0, .ref b), (1, .ref (G.2.2 0)), (2, .ref (G.2.2 100)), (3, .int (nI i))] [] := by
  refine zz_aload_n (pc := 472) E dL_law_472 rfl ?_
  refine zz_aload_n (pc := 473) E dL_law_473 rfl ?_
  refine zz_iload_n (pc := 474) E dL_law_474 rfl ?_
  refine zz_iconst (pc := 475) (v := nI 1) E dL_law_475 (by decide) ?_
  refine zz_iadd (pc := 476) E dL_law_476 ?_
  refine zz_sld (pc := 477) E hX (i + 1) (nI_add i 1) (by omega) dL_law_477 ?_
  refine zz_aload_n (pc := 478) E dL_law_478 rfl ?_
  refine zz_iload_n (pc := 479) E dL_law_479 rfl ?_
  refine zz_iconst (pc := 480) (v := nI 2) E dL_law_480 (by decide) ?_
  refine zz_iadd (pc := 481) E dL_law_481 ?_
  refine zz_sld (pc := 482) E hX (i + 2) (nI_add i 2) (by omega) dL_law_482 ?_
  refine zz_ciV (pc := 483) E 0 (kkX7_reduced l G E.2.2.2.2.2.1 _ S hs _ _ hI) (cwV 2 E.2.2.2.2.1 gL_law_X7_reduced rfl rfl rfl (by decide +kernel) ⟨Nat.le_of_ble_eq_true rfl, Nat.le_of_ble_eq_true rfl⟩) (by decide) rfl rfl rfl rfl (Nat.le_of_ble_eq_true rfl) dL_law_483 (fun r0 M0 h0 => ?_)
  obtain ⟨f0, g0, e0⟩ := h0
  have hJ1 := zJ_lo hJ f0
  refine zz_aload_n (pc := 486) E dL_law_486 rfl ?_
  refine zz_aload_n (pc := 487) E dL_law_487 rfl ?_
  refine zz_iload_n (pc := 488) E dL_law_488 rfl ?_
  refine zz_iconst (pc := 489) (v := nI 1) E dL_law_489 (by decide) ?_
  refine zz_iadd (pc := 490) E dL_law_490 ?_
  refine zz_sld (pc := 491) E hX (i + 1) (nI_add i 1) (by omega) dL_law_491 ?_
  refine zz_aload_n (pc := 492) E dL_law_492 rfl ?_
  refine zz_iload_n (pc := 493) E dL_law_493 rfl ?_
  refine zz_iconst (pc := 494) (v := nI 2) E dL_law_494 (by decide) ?_
  refine zz_iadd (pc := 495) E dL_law_495 ?_
  refine zz_sld (pc := 496) E hX (i + 2) (nI_add i 2) (by omega) dL_law_496 ?_
  refine zz_ciV (pc := 497) E 100 (kkX8_reduced l G E.2.2.2.2.2.1 _ S hs _ _ hJ1) (cwV 2 E.2.2.2.2.1 gL_law_X8_reduced rfl rfl rfl (by decide +kernel) ⟨Nat.le_of_ble_eq_true rfl, Nat.le_of_ble_eq_true rfl⟩) (by decide) rfl rfl rfl rfl (Nat.le_of_ble_eq_true rfl) dL_law_497 (fun r1 M1 h1 => ?_)
  obtain ⟨f1, g1, e1⟩ := h1
  exact zz_icmp_eq (tgt := 696) (pc := 500) E dL_law_500 (by decide) (fun _ => go _ _ _ (zI_hi g0 f1) g1) (fun h => absurd (e0.trans e1.symm) h)

set_option maxHeartbeats 1000000 in
set_option maxRecDepth 20000 in
theorem zL_alike {p : Program} {l : Launch} {e : Env} {s : State} {m : MethodId} {args : Array Value} {below : List Frame} {meth : Method} {c : Code} {cells slots : Nat} {Q : State → Prop} {G : zz_C} {A : Nat → Prop} {M : zz_M} {b L i : Nat} {xs : Nat → Int32} {S : Nat → Option Nat} {hs : List (Nat → Option Nat)} (E : zz_E p room_1 s m args c cells slots cL_law 4 wsL_law RL G A) (hX : zX s A b L xs) (hi : i + 5 ≤ L) (hI : zI M S hs) (hJ : zJ M S hs) (go : ∀ (M' : zz_M) (S' : Nat → Option Nat) (hs' : List (Nat → Option Nat)), zI M' S' hs' → zJ M' S' hs' → zz_Z p l e room_1 s m args below meth c cells slots Q 4 G A M' 696 [(0, .ref b), (1, .ref (G.2.2 0)), (2, .ref (G.2.2 100)), (3, .int (nI i))] []) : zz_Z p l e room_1 s m args below meth c cells slots Q 4 G A M 505 [(0, .ref b), (1, .ref (G.2.2 0)), (2, .ref (G.2.2 100)), (3, .int (nI i))] [] := by
  refine zz_aload_n (pc := 505) E dL_law_505 rfl ?_
  refine zz_aload_n (pc := 506) E dL_law_506 rfl ?_
  refine zz_iload_n (pc := 507) E dL_law_507 rfl ?_
  refine zz_iconst (pc := 508) (v := nI 1) E dL_law_508 (by decide) ?_
  refine zz_iadd (pc := 509) E dL_law_509 ?_
  refine zz_sld (pc := 510) E hX (i + 1) (nI_add i 1) (by omega) dL_law_510 ?_
  refine zz_aload_n (pc := 511) E dL_law_511 rfl ?_
  refine zz_iload_n (pc := 512) E dL_law_512 rfl ?_
  refine zz_iconst (pc := 513) (v := nI 2) E dL_law_513 (by decide) ?_
  refine zz_iadd (pc := 514) E dL_law_514 ?_
  refine zz_sld (pc := 515) E hX (i + 2) (nI_add i 2) (by omega) dL_law_515 ?_
  refine zz_ciV (pc := 516) E 0 (kkX7_alike l G E.2.2.2.2.2.1 _ S hs _ _ hI) (cwV 2 E.2.2.2.2.1 gL_law_X7_alike rfl rfl rfl (by decide +kernel) ⟨Nat.le_of_ble_eq_true rfl, Nat.le_of_ble_eq_true rfl⟩) (by decide) rfl rfl rfl rfl (Nat.le_of_ble_eq_true rfl) dL_law_516 (fun r0 M0 h0 => ?_)
  obtain ⟨f0, g0, e0⟩ := h0
  have hJ1 := zJ_lo hJ f0
  refine zz_aload_n (pc := 519) E dL_law_519 rfl ?_
  refine zz_aload_n (pc := 520) E dL_law_520 rfl ?_
  refine zz_iload_n (pc := 521) E dL_law_521 rfl ?_
  refine zz_iconst (pc := 522) (v := nI 1) E dL_law_522 (by decide) ?_
  refine zz_iadd (pc := 523) E dL_law_523 ?_
  refine zz_sld (pc := 524) E hX (i + 1) (nI_add i 1) (by omega) dL_law_524 ?_
  refine zz_aload_n (pc := 525) E dL_law_525 rfl ?_
  refine zz_iload_n (pc := 526) E dL_law_526 rfl ?_
  refine zz_iconst (pc := 527) (v := nI 2) E dL_law_527 (by decide) ?_
  refine zz_iadd (pc := 528) E dL_law_528 ?_
  refine zz_sld (pc := 529) E hX (i + 2) (nI_add i 2) (by omega) dL_law_529 ?_
  refine zz_ciV (pc := 530) E 100 (kkX8_alike l G E.2.2.2.2.2.1 _ S hs _ _ hJ1) (cwV 2 E.2.2.2.2.1 gL_law_X8_alike rfl rfl rfl (by decide +kernel) ⟨Nat.le_of_ble_eq_true rfl, Nat.le_of_ble_eq_true rfl⟩) (by decide) rfl rfl rfl rfl (Nat.le_of_ble_eq_true rfl) dL_law_530 (fun r1 M1 h1 => ?_)
  obtain ⟨f1, g1, e1⟩ := h1
  exact zz_icmp_eq (tgt := 696) (pc := 533) E dL_law_533 (by decide) (fun _ => go _ _ _ (zI_hi g0 f1) g1) (fun h => absurd (e0.trans e1.symm) h)

set_option maxHeartbeats 1000000 in
set_option maxRecDepth 20000 in
theorem zL_common {p : Program} {l : Launch} {e : Env} {s : State} {m : MethodId} {args : Array Value} {below : List Frame} {meth : Method} {c : Code} {cells slots : Nat} {Q : State → Prop} {G : zz_C} {A : Nat → Prop} {M : zz_M} {b L i : Nat} {xs : Nat → Int32} {S : Nat → Option Nat} {hs : List (Nat → Option Nat)} (E : zz_E p room_1 s m args c cells slots cL_law 4 wsL_law RL G A) (hX : zX s A b L xs) (hi : i + 5 ≤ L) (hI : zI M S hs) (hJ : zJ M S hs) (go : ∀ (M' : zz_M) (S' : Nat → Option Nat) (hs' : List (Nat → Option Nat)), zI M' S' hs' → zJ M' S' hs' → zz_Z p l e room_1 s m args below meth c cells slots Q 4 G A M' 696 [(0, .ref b), (1, .ref (G.2.2 0)), (2, .ref (G.2.2 100)), (3, .int (nI i))] []) : zz_Z p l e room_1 s m args below meth c cells slots Q 4 G A M 538 [(0, .ref b), (1, .ref (G.2.2 0)), (2, .ref (G.2.2 100)), (3, .int (nI i))] [] := by
  refine zz_aload_n (pc := 538) E dL_law_538 rfl ?_
  refine zz_aload_n (pc := 539) E dL_law_539 rfl ?_
  refine zz_iload_n (pc := 540) E dL_law_540 rfl ?_
  refine zz_iconst (pc := 541) (v := nI 1) E dL_law_541 (by decide) ?_
  refine zz_iadd (pc := 542) E dL_law_542 ?_
  refine zz_sld (pc := 543) E hX (i + 1) (nI_add i 1) (by omega) dL_law_543 ?_
  refine zz_aload_n (pc := 544) E dL_law_544 rfl ?_
  refine zz_iload_n (pc := 545) E dL_law_545 rfl ?_
  refine zz_iconst (pc := 546) (v := nI 2) E dL_law_546 (by decide) ?_
  refine zz_iadd (pc := 547) E dL_law_547 ?_
  refine zz_sld (pc := 548) E hX (i + 2) (nI_add i 2) (by omega) dL_law_548 ?_
  refine zz_aload_n (pc := 549) E dL_law_549 rfl ?_
  refine zz_iload_n (pc := 550) E dL_law_550 rfl ?_
  refine zz_iconst (pc := 551) (v := nI 3) E dL_law_551 (by decide) ?_
  refine zz_iadd (pc := 552) E dL_law_552 ?_
  refine zz_sld (pc := 553) E hX (i + 3) (nI_add i 3) (by omega) dL_law_553 ?_
  refine zz_ciV (pc := 554) E 0 (kkX7_common l G E.2.2.2.2.2.1 _ S hs _ _ _ hI) (cwV 3 E.2.2.2.2.1 gL_law_X7_common rfl rfl rfl (by decide +kernel) ⟨Nat.le_of_ble_eq_true rfl, Nat.le_of_ble_eq_true rfl⟩) (by decide) rfl rfl rfl rfl (Nat.le_of_ble_eq_true rfl) dL_law_554 (fun r0 M0 h0 => ?_)
  obtain ⟨f0, g0, e0⟩ := h0
  have hJ1 := zJ_lo hJ f0
  refine zz_aload_n (pc := 557) E dL_law_557 rfl ?_
  refine zz_aload_n (pc := 558) E dL_law_558 rfl ?_
  refine zz_iload_n (pc := 559) E dL_law_559 rfl ?_
  refine zz_iconst (pc := 560) (v := nI 1) E dL_law_560 (by decide) ?_
  refine zz_iadd (pc := 561) E dL_law_561 ?_
  refine zz_sld (pc := 562) E hX (i + 1) (nI_add i 1) (by omega) dL_law_562 ?_
  refine zz_aload_n (pc := 563) E dL_law_563 rfl ?_
  refine zz_iload_n (pc := 564) E dL_law_564 rfl ?_
  refine zz_iconst (pc := 565) (v := nI 2) E dL_law_565 (by decide) ?_
  refine zz_iadd (pc := 566) E dL_law_566 ?_
  refine zz_sld (pc := 567) E hX (i + 2) (nI_add i 2) (by omega) dL_law_567 ?_
  refine zz_aload_n (pc := 568) E dL_law_568 rfl ?_
  refine zz_iload_n (pc := 569) E dL_law_569 rfl ?_
  refine zz_iconst (pc := 570) (v := nI 3) E dL_law_570 (by decide) ?_
  refine zz_iadd (pc := 571) E dL_law_571 ?_
  refine zz_sld (pc := 572) E hX (i + 3) (nI_add i 3) (by omega) dL_law_572 ?_
  refine zz_ciV (pc := 573) E 100 (kkX8_common l G E.2.2.2.2.2.1 _ S hs _ _ _ hJ1) (cwV 3 E.2.2.2.2.1 gL_law_X8_common rfl rfl rfl (by decide +kernel) ⟨Nat.le_of_ble_eq_true rfl, Nat.le_of_ble_eq_true rfl⟩) (by decide) rfl rfl rfl rfl (Nat.le_of_ble_eq_true rfl) dL_law_573 (fun r1 M1 h1 => ?_)
  obtain ⟨f1, g1, e1⟩ := h1
  exact zz_icmp_eq (tgt := 696) (pc := 576) E dL_law_576 (by decide) (fun _ => go _ _ _ (zI_hi g0 f1) g1) (fun h => absurd (e0.trans e1.symm) h)

set_option maxHeartbeats 1000000 in
set_option maxRecDepth 20000 in
theorem zL_broken {p : Program} {l : Launch} {e : Env} {s : State} {m : MethodId} {args : Array Value} {below : List Frame} {meth : Method} {c : Code} {cells slots : Nat} {Q : State → Prop} {G : zz_C} {A : Nat → Prop} {M : zz_M} {b L i : Nat} {xs : Nat → Int32} {S : Nat → Option Nat} {hs : List (Nat → Option Nat)} (E : zz_E p room_1 s m args c cells slots cL_law 4 wsL_law RL G A) (hX : zX s A b L xs) (hi : i + 5 ≤ L) (hI : zI M S hs) (hJ : zJ M S hs) (go : ∀ (M' : zz_M) (S' : Nat → Option Nat) (hs' : List (Nat → Option Nat)), zI M' S' hs' → zJ M' S' hs' → zz_Z p l e room_1 s m args below meth c cells slots Q 4 G A M' 696 [(0, .ref b), (1, .ref (G.2.2 0)), (2, .ref (G.2.2 100)), (3, .int (nI i))] []) : zz_Z p l e room_1 s m args below meth c cells slots Q 4 G A M 581 [(0, .ref b), (1, .ref (G.2.2 0)), (2, .ref (G.2.2 100)), (3, .int (nI i))] [] := by
  refine zz_aload_n (pc := 581) E dL_law_581 rfl ?_
  refine zz_aload_n (pc := 582) E dL_law_582 rfl ?_
  refine zz_iload_n (pc := 583) E dL_law_583 rfl ?_
  refine zz_iconst (pc := 584) (v := nI 1) E dL_law_584 (by decide) ?_
  refine zz_iadd (pc := 585) E dL_law_585 ?_
  refine zz_sld (pc := 586) E hX (i + 1) (nI_add i 1) (by omega) dL_law_586 ?_
  refine zz_ciV (pc := 587) E 0 (kkX7_broken l G E.2.2.2.2.2.1 _ S hs _ hI) (cwV 1 E.2.2.2.2.1 gL_law_X7_broken rfl rfl rfl (by decide +kernel) ⟨Nat.le_of_ble_eq_true rfl, Nat.le_of_ble_eq_true rfl⟩) (by decide) rfl rfl rfl rfl (Nat.le_of_ble_eq_true rfl) dL_law_587 (fun r0 M0 h0 => ?_)
  obtain ⟨f0, g0, e0⟩ := h0
  have hJ1 := zJ_lo hJ f0
  refine zz_aload_n (pc := 590) E dL_law_590 rfl ?_
  refine zz_aload_n (pc := 591) E dL_law_591 rfl ?_
  refine zz_iload_n (pc := 592) E dL_law_592 rfl ?_
  refine zz_iconst (pc := 593) (v := nI 1) E dL_law_593 (by decide) ?_
  refine zz_iadd (pc := 594) E dL_law_594 ?_
  refine zz_sld (pc := 595) E hX (i + 1) (nI_add i 1) (by omega) dL_law_595 ?_
  refine zz_ciV (pc := 596) E 100 (kkX8_broken l G E.2.2.2.2.2.1 _ S hs _ hJ1) (cwV 1 E.2.2.2.2.1 gL_law_X8_broken rfl rfl rfl (by decide +kernel) ⟨Nat.le_of_ble_eq_true rfl, Nat.le_of_ble_eq_true rfl⟩) (by decide) rfl rfl rfl rfl (Nat.le_of_ble_eq_true rfl) dL_law_596 (fun r1 M1 h1 => ?_)
  obtain ⟨f1, g1, e1⟩ := h1
  exact zz_icmp_eq (tgt := 696) (pc := 599) E dL_law_599 (by decide) (fun _ => go _ _ _ (zI_hi g0 f1) g1) (fun h => absurd (e0.trans e1.symm) h)

set_option maxHeartbeats 1000000 in
set_option maxRecDepth 20000 in
theorem zL_settle {p : Program} {l : Launch} {e : Env} {s : State} {m : MethodId} {args : Array Value} {below : List Frame} {meth : Method} {c : Code} {cells slots : Nat} {Q : State → Prop} {G : zz_C} {A : Nat → Prop} {M : zz_M} {b L i : Nat} {xs : Nat → Int32} {S : Nat → Option Nat} {hs : List (Nat → Option Nat)} (E : zz_E p room_1 s m args c cells slots cL_law 4 wsL_law RL G A) (hX : zX s A b L xs) (hi : i + 5 ≤ L) (hI : zI M S hs) (hJ : zJ M S hs) (go : ∀ (M' : zz_M) (S' : Nat → Option Nat) (hs' : List (Nat → Option Nat)), zI M' S' hs' → zJ M' S' hs' → zz_Z p l e room_1 s m args below meth c cells slots Q 4 G A M' 696 [(0, .ref b), (1, .ref (G.2.2 0)), (2, .ref (G.2.2 100)), (3, .int (nI i))] []) : zz_Z p l e room_1 s m args below meth c cells slots Q 4 G A M 604 [(0, .ref b), (1, .ref (G.2.2 0)), (2, .ref (G.2.2 100)), (3, .int (nI i))] [] := by
  refine zz_aload_n (pc := 604) E dL_law_604 rfl ?_
  refine zz_ciV (pc := 605) E 0 (kkX7_settle l G E.2.2.2.2.2.1 _ S hs hI) (cwV 0 E.2.2.2.2.1 gL_law_X7_settle rfl rfl rfl (by decide +kernel) ⟨Nat.le_of_ble_eq_true rfl, Nat.le_of_ble_eq_true rfl⟩) (by decide) rfl rfl rfl rfl (Nat.le_of_ble_eq_true rfl) dL_law_605 (fun r0 M0 h0 => ?_)
  obtain ⟨f0, e0, g0⟩ := h0
  have hJ1 := zJ_lo hJ f0
  refine zz_aload_n (pc := 608) E dL_law_608 rfl ?_
  refine zz_ciV (pc := 609) E 100 (kkX8_settle l G E.2.2.2.2.2.1 _ S hs hJ1) (cwV 0 E.2.2.2.2.1 gL_law_X8_settle rfl rfl rfl (by decide +kernel) ⟨Nat.le_of_ble_eq_true rfl, Nat.le_of_ble_eq_true rfl⟩) (by decide) rfl rfl rfl rfl (Nat.le_of_ble_eq_true rfl) dL_law_609 (fun r1 M1 h1 => ?_)
  obtain ⟨f1, e1, g1⟩ := h1
  exact zz_icmp_eq (tgt := 696) (pc := 612) E dL_law_612 (by decide) (fun _ => go _ _ _ (zI_hi g0 f1) g1) (fun h => absurd (e0.trans e1.symm) h)

set_option maxHeartbeats 1000000 in
set_option maxRecDepth 20000 in
theorem zL_might {p : Program} {l : Launch} {e : Env} {s : State} {m : MethodId} {args : Array Value} {below : List Frame} {meth : Method} {c : Code} {cells slots : Nat} {Q : State → Prop} {G : zz_C} {A : Nat → Prop} {M : zz_M} {b L i : Nat} {xs : Nat → Int32} {S : Nat → Option Nat} {hs : List (Nat → Option Nat)} (E : zz_E p room_1 s m args c cells slots cL_law 4 wsL_law RL G A) (hX : zX s A b L xs) (hi : i + 5 ≤ L) (hI : zI M S hs) (hJ : zJ M S hs) (go : ∀ (M' : zz_M) (S' : Nat → Option Nat) (hs' : List (Nat → Option Nat)), zI M' S' hs' → zJ M' S' hs' → zz_Z p l e room_1 s m args below meth c cells slots Q 4 G A M' 696 [(0, .ref b), (1, .ref (G.2.2 0)), (2, .ref (G.2.2 100)), (3, .int (nI i))] []) : zz_Z p l e room_1 s m args below meth c cells slots Q 4 G A M 617 [(0, .ref b), (1, .ref (G.2.2 0)), (2, .ref (G.2.2 100)), (3, .int (nI i))] [] := by
  refine zz_aload_n (pc := 617) E dL_law_617 rfl ?_
  refine zz_aload_n (pc := 618) E dL_law_618 rfl ?_
  refine zz_iload_n (pc := 619) E dL_law_619 rfl ?_
  refine zz_iconst (pc := 620) (v := nI 1) E dL_law_620 (by decide) ?_
  refine zz_iadd (pc := 621) E dL_law_621 ?_
  refine zz_sld (pc := 622) E hX (i + 1) (nI_add i 1) (by omega) dL_law_622 ?_
  refine zz_aload_n (pc := 623) E dL_law_623 rfl ?_
  refine zz_iload_n (pc := 624) E dL_law_624 rfl ?_
  refine zz_iconst (pc := 625) (v := nI 2) E dL_law_625 (by decide) ?_
  refine zz_iadd (pc := 626) E dL_law_626 ?_
  refine zz_sld (pc := 627) E hX (i + 2) (nI_add i 2) (by omega) dL_law_627 ?_
  refine zz_ciV (pc := 628) E 0 (kkX7_might l G E.2.2.2.2.2.1 _ S hs _ _ hI) (cwV 2 E.2.2.2.2.1 gL_law_X7_might rfl rfl rfl (by decide +kernel) ⟨Nat.le_of_ble_eq_true rfl, Nat.le_of_ble_eq_true rfl⟩) (by decide) rfl rfl rfl rfl (Nat.le_of_ble_eq_true rfl) dL_law_628 (fun r0 M0 h0 => ?_)
  obtain ⟨f0, g0, e0⟩ := h0
  have hJ1 := zJ_lo hJ f0
  refine zz_aload_n (pc := 631) E dL_law_631 rfl ?_
  refine zz_aload_n (pc := 632) E dL_law_632 rfl ?_
  refine zz_iload_n (pc := 633) E dL_law_633 rfl ?_
  refine zz_iconst (pc := 634) (v := nI 1) E dL_law_634 (by decide) ?_
  refine zz_iadd (pc := 635) E dL_law_635 ?_
  refine zz_sld (pc := 636) E hX (i + 1) (nI_add i 1) (by omega) dL_law_636 ?_
  refine zz_aload_n (pc := 637) E dL_law_637 rfl ?_
  refine zz_iload_n (pc := 638) E dL_law_638 rfl ?_
  refine zz_iconst (pc := 639) (v := nI 2) E dL_law_639 (by decide) ?_
  refine zz_iadd (pc := 640) E dL_law_640 ?_
  refine zz_sld (pc := 641) E hX (i + 2) (nI_add i 2) (by omega) dL_law_641 ?_
  refine zz_ciV (pc := 642) E 100 (kkX8_might l G E.2.2.2.2.2.1 _ S hs _ _ hJ1) (cwV 2 E.2.2.2.2.1 gL_law_X8_might rfl rfl rfl (by decide +kernel) ⟨Nat.le_of_ble_eq_true rfl, Nat.le_of_ble_eq_true rfl⟩) (by decide) rfl rfl rfl rfl (Nat.le_of_ble_eq_true rfl) dL_law_642 (fun r1 M1 h1 => ?_)
  obtain ⟨f1, g1, e1⟩ := h1
  exact zz_icmp_eq (tgt := 696) (pc := 645) E dL_law_645 (by decide) (fun _ => go _ _ _ (zI_hi g0 f1) g1) (fun h => absurd (e0.trans e1.symm) h)

set_option maxHeartbeats 1000000 in
set_option maxRecDepth 20000 in
theorem zL_undo {p : Program} {l : Launch} {e : Env} {s : State} {m : MethodId} {args : Array Value} {below : List Frame} {meth : Method} {c : Code} {cells slots : Nat} {Q : State → Prop} {G : zz_C} {A : Nat → Prop} {M : zz_M} {b L i : Nat} {xs : Nat → Int32} {S : Nat → Option Nat} {hs : List (Nat → Option Nat)} (E : zz_E p room_1 s m args c cells slots cL_law 4 wsL_law RL G A) (hX : zX s A b L xs) (hi : i + 5 ≤ L) (hI : zI M S hs) (hJ : zJ M S hs) (go : ∀ (M' : zz_M) (S' : Nat → Option Nat) (hs' : List (Nat → Option Nat)), zI M' S' hs' → zJ M' S' hs' → zz_Z p l e room_1 s m args below meth c cells slots Q 4 G A M' 696 [(0, .ref b), (1, .ref (G.2.2 0)), (2, .ref (G.2.2 100)), (3, .int (nI i))] []) : zz_Z p l e room_1 s m args below meth c cells slots Q 4 G A M 650 [(0, .ref b), (1, .ref (G.2.2 0)), (2, .ref (G.2.2 100)), (3, .int (nI i))] [] := by
  refine zz_aload_n (pc := 650) E dL_law_650 rfl ?_
  refine zz_aload_n (pc := 651) E dL_law_651 rfl ?_
  refine zz_iload_n (pc := 652) E dL_law_652 rfl ?_
  refine zz_iconst (pc := 653) (v := nI 1) E dL_law_653 (by decide) ?_
  refine zz_iadd (pc := 654) E dL_law_654 ?_
  refine zz_sld (pc := 655) E hX (i + 1) (nI_add i 1) (by omega) dL_law_655 ?_
  refine zz_ciV (pc := 656) E 0 (kkX7_undo l G E.2.2.2.2.2.1 _ S hs _ hI) (cwV 1 E.2.2.2.2.1 gL_law_X7_undo rfl rfl rfl (by decide +kernel) ⟨Nat.le_of_ble_eq_true rfl, Nat.le_of_ble_eq_true rfl⟩) (by decide) rfl rfl rfl rfl (Nat.le_of_ble_eq_true rfl) dL_law_656 (fun r0 M0 h0 => ?_)
  obtain ⟨f0, e0, g0⟩ := h0
  have hJ1 := zJ_lo hJ f0
  refine zz_aload_n (pc := 659) E dL_law_659 rfl ?_
  refine zz_aload_n (pc := 660) E dL_law_660 rfl ?_
  refine zz_iload_n (pc := 661) E dL_law_661 rfl ?_
  refine zz_iconst (pc := 662) (v := nI 1) E dL_law_662 (by decide) ?_
  refine zz_iadd (pc := 663) E dL_law_663 ?_
  refine zz_sld (pc := 664) E hX (i + 1) (nI_add i 1) (by omega) dL_law_664 ?_
  refine zz_ciV (pc := 665) E 100 (kkX8_undo l G E.2.2.2.2.2.1 _ S hs _ hJ1) (cwV 1 E.2.2.2.2.1 gL_law_X8_undo rfl rfl rfl (by decide +kernel) ⟨Nat.le_of_ble_eq_true rfl, Nat.le_of_ble_eq_true rfl⟩) (by decide) rfl rfl rfl rfl (Nat.le_of_ble_eq_true rfl) dL_law_665 (fun r1 M1 h1 => ?_)
  obtain ⟨f1, e1, g1⟩ := h1
  exact zz_icmp_eq (tgt := 696) (pc := 668) E dL_law_668 (by decide) (fun _ => go _ _ _ (zI_hi g0 f1) g1) (fun h => absurd (e0.trans e1.symm) h)

set_option maxHeartbeats 1000000 in
set_option maxRecDepth 20000 in
theorem zL_many {p : Program} {l : Launch} {e : Env} {s : State} {m : MethodId} {args : Array Value} {below : List Frame} {meth : Method} {c : Code} {cells slots : Nat} {Q : State → Prop} {G : zz_C} {A : Nat → Prop} {M : zz_M} {b L i : Nat} {xs : Nat → Int32} {S : Nat → Option Nat} {hs : List (Nat → Option Nat)} (E : zz_E p room_1 s m args c cells slots cL_law 4 wsL_law RL G A) (hX : zX s A b L xs) (hi : i + 5 ≤ L) (hI : zI M S hs) (hJ : zJ M S hs) (go : ∀ (M' : zz_M) (S' : Nat → Option Nat) (hs' : List (Nat → Option Nat)), zI M' S' hs' → zJ M' S' hs' → zz_Z p l e room_1 s m args below meth c cells slots Q 4 G A M' 696 [(0, .ref b), (1, .ref (G.2.2 0)), (2, .ref (G.2.2 100)), (3, .int (nI i))] []) : zz_Z p l e room_1 s m args below meth c cells slots Q 4 G A M 673 [(0, .ref b), (1, .ref (G.2.2 0)), (2, .ref (G.2.2 100)), (3, .int (nI i))] [] := by
  refine zz_aload_n (pc := 673) E dL_law_673 rfl ?_
  refine zz_aload_n (pc := 674) E dL_law_674 rfl ?_
  refine zz_iload_n (pc := 675) E dL_law_675 rfl ?_
  refine zz_iconst (pc := 676) (v := nI 1) E dL_law_676 (by decide) ?_
  refine zz_iadd (pc := 677) E dL_law_677 ?_
  refine zz_sld (pc := 678) E hX (i + 1) (nI_add i 1) (by omega) dL_law_678 ?_
  refine zz_ciV (pc := 679) E 0 (kkX7_many l G E.2.2.2.2.2.1 _ S hs _ hI) (cwV 1 E.2.2.2.2.1 gL_law_X7_many rfl rfl rfl (by decide +kernel) ⟨Nat.le_of_ble_eq_true rfl, Nat.le_of_ble_eq_true rfl⟩) (by decide) rfl rfl rfl rfl (Nat.le_of_ble_eq_true rfl) dL_law_679 (fun r0 M0 h0 => ?_)
  obtain ⟨f0, g0, e0⟩ := h0
  have hJ1 := zJ_lo hJ f0
  refine zz_aload_n (pc := 682) E dL_law_682 rfl ?_
  refine zz_aload_n (pc := 683) E dL_law_683 rfl ?_
  refine zz_iload_n (pc := 684) E dL_law_684 rfl ?_
  refine zz_iconst (pc := 685) (v := nI 1) E dL_law_685 (by decide) ?_
  refine zz_iadd (pc := 686) E dL_law_686 ?_
  refine zz_sld (pc := 687) E hX (i + 1) (nI_add i 1) (by omega) dL_law_687 ?_
  refine zz_ciV (pc := 688) E 100 (kkX8_many l G E.2.2.2.2.2.1 _ S hs _ hJ1) (cwV 1 E.2.2.2.2.1 gL_law_X8_many rfl rfl rfl (by decide +kernel) ⟨Nat.le_of_ble_eq_true rfl, Nat.le_of_ble_eq_true rfl⟩) (by decide) rfl rfl rfl rfl (Nat.le_of_ble_eq_true rfl) dL_law_688 (fun r1 M1 h1 => ?_)
  obtain ⟨f1, g1, e1⟩ := h1
  exact zz_icmp_eq (tgt := 696) (pc := 691) E dL_law_691 (by decide) (fun _ => go _ _ _ (zI_hi g0 f1) g1) (fun h => absurd (e0.trans e1.symm) h)
