/-! ===== the law's cases: each call is made of both, and the answers are one ===== -/
section ZLC
variable {K : Kx} {P : Px} {n u w : Nat} {h : hw} {b L : Nat} {xs : Nat → Int32}
set_option maxRecDepth 100000 in
set_option maxHeartbeats 1000000 in
theorem lc_go (X : Cx K P RL cL_law 4 9 600000 7302250) (S : Sc K P b L xs) {i : Nat} (I : Iw P n h) (hi : i + 5 ≤ L) (hu : u + 1 ≤ 600000) (hw' : w + 9 ≤ 7302250) (k : ∀ (n' : Nat) (h' : hw), Iw P n' h' → Z K P n' h' (u + 1) (w + 9) 831 (lvL P b i) []) : Z K P n h u w 132 (lvL P b i) [] := by
  obtain ⟨f8, e0⟩ := I.e0
  have h59 := I.n59
  obtain ⟨r, n1, H1, H2, d, mc, ms, d2, fs, b1, b2, b3, b4, hC, h37, hM, hn, I2⟩ := st_go P n h I (xs (i + 1))
  refine r_aload_n X dL_law_132 (pc' := 133) rfl rfl ?_
  refine r_arg (k := 1) X S dL_law_133 rfl dL_law_134 rfl dL_law_135 (by decide) rfl dL_law_136 rfl dL_law_137 (p5 := 138) rfl (by omega) ?_
  refine r_callV (As := [_]) X okX8_go lm_L_13 dL_law_138 (pc' := 141) rfl hC (by omega) e0 rfl rfl rfl rfl (Nat.le_of_ble_eq_true rfl) (by omega) (by omega) (by omega) ?_
  dsimp only [Option.toList, List.cons_append, List.nil_append]
  refine r_aload_n X dL_law_141 (pc' := 142) rfl rfl ?_
  refine r_arg (k := 1) X S dL_law_142 rfl dL_law_143 rfl dL_law_144 (by decide) rfl dL_law_145 rfl dL_law_146 (p5 := 147) rfl (by omega) ?_
  refine r_callV (As := [_]) X okX9_go lm_L_17 dL_law_147 (pc' := 150) rfl hM (by omega) h37 rfl rfl rfl rfl (Nat.le_of_ble_eq_true rfl) (by omega) (by omega) (by omega) ?_
  dsimp only [Option.toList, List.cons_append, List.nil_append]
  exact r_icmp_eq X dL_law_150 (tgt := 831) (by decide) (pc' := 153) rfl (fun _ => Z.mono (by omega) (by omega) (k n1 H2 I2)) (fun c => absurd rfl c)
set_option maxRecDepth 100000 in
set_option maxHeartbeats 1000000 in
theorem lc_roles (X : Cx K P RL cL_law 4 9 600000 7302250) (S : Sc K P b L xs) {i : Nat} (I : Iw P n h) (hi : i + 5 ≤ L) (hu : u + 1 ≤ 600000) (hw' : w + 9 ≤ 7302250) (k : ∀ (n' : Nat) (h' : hw), Iw P n' h' → Z K P n' h' (u + 1) (w + 9) 831 (lvL P b i) []) : Z K P n h u w 155 (lvL P b i) [] := by
  obtain ⟨f8, e0⟩ := I.e0
  have h59 := I.n59
  obtain ⟨r, n1, H1, H2, d, mc, ms, d2, fs, b1, b2, b3, b4, hC, h37, hM, hn, I2⟩ := st_roles P n h I (xs (i + 1)) (xs (i + 2))
  refine r_aload_n X dL_law_155 (pc' := 156) rfl rfl ?_
  refine r_arg (k := 1) X S dL_law_156 rfl dL_law_157 rfl dL_law_158 (by decide) rfl dL_law_159 rfl dL_law_160 (p5 := 161) rfl (by omega) ?_
  refine r_arg (k := 2) X S dL_law_161 rfl dL_law_162 rfl dL_law_163 (by decide) rfl dL_law_164 rfl dL_law_165 (p5 := 166) rfl (by omega) ?_
  refine r_callV (As := [_, _]) X okX8_roles lm_L_18 dL_law_166 (pc' := 169) rfl hC (by omega) e0 rfl rfl rfl rfl (Nat.le_of_ble_eq_true rfl) (by omega) (by omega) (by omega) ?_
  dsimp only [Option.toList, List.cons_append, List.nil_append]
  refine r_aload_n X dL_law_169 (pc' := 170) rfl rfl ?_
  refine r_arg (k := 1) X S dL_law_170 rfl dL_law_171 rfl dL_law_172 (by decide) rfl dL_law_173 rfl dL_law_174 (p5 := 175) rfl (by omega) ?_
  refine r_arg (k := 2) X S dL_law_175 rfl dL_law_176 rfl dL_law_177 (by decide) rfl dL_law_178 rfl dL_law_179 (p5 := 180) rfl (by omega) ?_
  refine r_callV (As := [_, _]) X okX9_roles lm_L_22 dL_law_180 (pc' := 183) rfl hM (by omega) h37 rfl rfl rfl rfl (Nat.le_of_ble_eq_true rfl) (by omega) (by omega) (by omega) ?_
  dsimp only [Option.toList, List.cons_append, List.nil_append]
  exact r_icmp_eq X dL_law_183 (tgt := 831) (by decide) (pc' := 186) rfl (fun _ => Z.mono (by omega) (by omega) (k n1 H2 I2)) (fun c => absurd rfl c)
set_option maxRecDepth 100000 in
set_option maxHeartbeats 1000000 in
theorem lc_mark (X : Cx K P RL cL_law 4 9 600000 7302250) (S : Sc K P b L xs) {i : Nat} (I : Iw P n h) (hi : i + 5 ≤ L) (hu : u + 1 ≤ 600000) (hw' : w + 9 ≤ 7302250) (k : ∀ (n' : Nat) (h' : hw), Iw P n' h' → Z K P n' h' (u + 1) (w + 9) 831 (lvL P b i) []) : Z K P n h u w 188 (lvL P b i) [] := by
  obtain ⟨f8, e0⟩ := I.e0
  have h59 := I.n59
  obtain ⟨r, n1, H1, H2, d, mc, ms, d2, fs, b1, b2, b3, b4, hC, h37, hM, hn, I2⟩ := st_mark P n h I (xs (i + 1)) (xs (i + 2)) (xs (i + 3))
  refine r_aload_n X dL_law_188 (pc' := 189) rfl rfl ?_
  refine r_arg (k := 1) X S dL_law_189 rfl dL_law_190 rfl dL_law_191 (by decide) rfl dL_law_192 rfl dL_law_193 (p5 := 194) rfl (by omega) ?_
  refine r_arg (k := 2) X S dL_law_194 rfl dL_law_195 rfl dL_law_196 (by decide) rfl dL_law_197 rfl dL_law_198 (p5 := 199) rfl (by omega) ?_
  refine r_arg (k := 3) X S dL_law_199 rfl dL_law_200 rfl dL_law_201 (by decide) rfl dL_law_202 rfl dL_law_203 (p5 := 204) rfl (by omega) ?_
  refine r_callV (As := [_, _, _]) X okX8_mark lm_L_23 dL_law_204 (pc' := 207) rfl hC (by omega) e0 rfl rfl rfl rfl (Nat.le_of_ble_eq_true rfl) (by omega) (by omega) (by omega) ?_
  dsimp only [Option.toList, List.cons_append, List.nil_append]
  refine r_aload_n X dL_law_207 (pc' := 208) rfl rfl ?_
  refine r_arg (k := 1) X S dL_law_208 rfl dL_law_209 rfl dL_law_210 (by decide) rfl dL_law_211 rfl dL_law_212 (p5 := 213) rfl (by omega) ?_
  refine r_arg (k := 2) X S dL_law_213 rfl dL_law_214 rfl dL_law_215 (by decide) rfl dL_law_216 rfl dL_law_217 (p5 := 218) rfl (by omega) ?_
  refine r_arg (k := 3) X S dL_law_218 rfl dL_law_219 rfl dL_law_220 (by decide) rfl dL_law_221 rfl dL_law_222 (p5 := 223) rfl (by omega) ?_
  refine r_callV (As := [_, _, _]) X okX9_mark lm_L_27 dL_law_223 (pc' := 226) rfl hM (by omega) h37 rfl rfl rfl rfl (Nat.le_of_ble_eq_true rfl) (by omega) (by omega) (by omega) ?_
  dsimp only [Option.toList, List.cons_append, List.nil_append]
  exact r_icmp_eq X dL_law_226 (tgt := 831) (by decide) (pc' := 229) rfl (fun _ => Z.mono (by omega) (by omega) (k n1 H2 I2)) (fun c => absurd rfl c)
set_option maxRecDepth 100000 in
set_option maxHeartbeats 1000000 in
theorem lc_thing (X : Cx K P RL cL_law 4 9 600000 7302250) (S : Sc K P b L xs) {i : Nat} (I : Iw P n h) (hi : i + 5 ≤ L) (hu : u + 1 ≤ 600000) (hw' : w + 9 ≤ 7302250) (k : ∀ (n' : Nat) (h' : hw), Iw P n' h' → Z K P n' h' (u + 1) (w + 9) 831 (lvL P b i) []) : Z K P n h u w 231 (lvL P b i) [] := by
  obtain ⟨f8, e0⟩ := I.e0
  have h59 := I.n59
  obtain ⟨r, n1, H1, H2, d, mc, ms, d2, fs, b1, b2, b3, b4, hC, h37, hM, hn, I2⟩ := st_thing P n h I (xs (i + 1)) (xs (i + 2)) (xs (i + 3))
  refine r_aload_n X dL_law_231 (pc' := 232) rfl rfl ?_
  refine r_arg (k := 1) X S dL_law_232 rfl dL_law_233 rfl dL_law_234 (by decide) rfl dL_law_235 rfl dL_law_236 (p5 := 237) rfl (by omega) ?_
  refine r_arg (k := 2) X S dL_law_237 rfl dL_law_238 rfl dL_law_239 (by decide) rfl dL_law_240 rfl dL_law_241 (p5 := 242) rfl (by omega) ?_
  refine r_arg (k := 3) X S dL_law_242 rfl dL_law_243 rfl dL_law_244 (by decide) rfl dL_law_245 rfl dL_law_246 (p5 := 247) rfl (by omega) ?_
  refine r_callV (As := [_, _, _]) X okX8_thing lm_L_28 dL_law_247 (pc' := 250) rfl hC (by omega) e0 rfl rfl rfl rfl (Nat.le_of_ble_eq_true rfl) (by omega) (by omega) (by omega) ?_
  dsimp only [Option.toList, List.cons_append, List.nil_append]
  refine r_aload_n X dL_law_250 (pc' := 251) rfl rfl ?_
  refine r_arg (k := 1) X S dL_law_251 rfl dL_law_252 rfl dL_law_253 (by decide) rfl dL_law_254 rfl dL_law_255 (p5 := 256) rfl (by omega) ?_
  refine r_arg (k := 2) X S dL_law_256 rfl dL_law_257 rfl dL_law_258 (by decide) rfl dL_law_259 rfl dL_law_260 (p5 := 261) rfl (by omega) ?_
  refine r_arg (k := 3) X S dL_law_261 rfl dL_law_262 rfl dL_law_263 (by decide) rfl dL_law_264 rfl dL_law_265 (p5 := 266) rfl (by omega) ?_
  refine r_callV (As := [_, _, _]) X okX9_thing lm_L_31 dL_law_266 (pc' := 269) rfl hM (by omega) h37 rfl rfl rfl rfl (Nat.le_of_ble_eq_true rfl) (by omega) (by omega) (by omega) ?_
  dsimp only [Option.toList, List.cons_append, List.nil_append]
  exact r_icmp_eq X dL_law_269 (tgt := 831) (by decide) (pc' := 272) rfl (fun _ => Z.mono (by omega) (by omega) (k n1 H2 I2)) (fun c => absurd rfl c)
set_option maxRecDepth 100000 in
set_option maxHeartbeats 1000000 in
theorem lc_sort (X : Cx K P RL cL_law 4 9 600000 7302250) (S : Sc K P b L xs) {i : Nat} (I : Iw P n h) (hi : i + 5 ≤ L) (hu : u + 1 ≤ 600000) (hw' : w + 9 ≤ 7302250) (k : ∀ (n' : Nat) (h' : hw), Iw P n' h' → Z K P n' h' (u + 1) (w + 9) 831 (lvL P b i) []) : Z K P n h u w 274 (lvL P b i) [] := by
  obtain ⟨f8, e0⟩ := I.e0
  have h59 := I.n59
  obtain ⟨r, n1, H1, H2, d, mc, ms, d2, fs, b1, b2, b3, b4, hC, h37, hM, hn, I2⟩ := st_sort P n h I (xs (i + 1)) (xs (i + 2)) (xs (i + 3))
  refine r_aload_n X dL_law_274 (pc' := 275) rfl rfl ?_
  refine r_arg (k := 1) X S dL_law_275 rfl dL_law_276 rfl dL_law_277 (by decide) rfl dL_law_278 rfl dL_law_279 (p5 := 280) rfl (by omega) ?_
  refine r_arg (k := 2) X S dL_law_280 rfl dL_law_281 rfl dL_law_282 (by decide) rfl dL_law_283 rfl dL_law_284 (p5 := 285) rfl (by omega) ?_
  refine r_arg (k := 3) X S dL_law_285 rfl dL_law_286 rfl dL_law_287 (by decide) rfl dL_law_288 rfl dL_law_289 (p5 := 290) rfl (by omega) ?_
  refine r_callV (As := [_, _, _]) X okX8_sort lm_L_32 dL_law_290 (pc' := 293) rfl hC (by omega) e0 rfl rfl rfl rfl (Nat.le_of_ble_eq_true rfl) (by omega) (by omega) (by omega) ?_
  dsimp only [Option.toList, List.cons_append, List.nil_append]
  refine r_aload_n X dL_law_293 (pc' := 294) rfl rfl ?_
  refine r_arg (k := 1) X S dL_law_294 rfl dL_law_295 rfl dL_law_296 (by decide) rfl dL_law_297 rfl dL_law_298 (p5 := 299) rfl (by omega) ?_
  refine r_arg (k := 2) X S dL_law_299 rfl dL_law_300 rfl dL_law_301 (by decide) rfl dL_law_302 rfl dL_law_303 (p5 := 304) rfl (by omega) ?_
  refine r_arg (k := 3) X S dL_law_304 rfl dL_law_305 rfl dL_law_306 (by decide) rfl dL_law_307 rfl dL_law_308 (p5 := 309) rfl (by omega) ?_
  refine r_callV (As := [_, _, _]) X okX9_sort lm_L_35 dL_law_309 (pc' := 312) rfl hM (by omega) h37 rfl rfl rfl rfl (Nat.le_of_ble_eq_true rfl) (by omega) (by omega) (by omega) ?_
  dsimp only [Option.toList, List.cons_append, List.nil_append]
  exact r_icmp_eq X dL_law_312 (tgt := 831) (by decide) (pc' := 315) rfl (fun _ => Z.mono (by omega) (by omega) (k n1 H2 I2)) (fun c => absurd rfl c)
set_option maxRecDepth 100000 in
set_option maxHeartbeats 1000000 in
theorem lc_rule (X : Cx K P RL cL_law 4 9 600000 7302250) (S : Sc K P b L xs) {i : Nat} (I : Iw P n h) (hi : i + 5 ≤ L) (hu : u + 1 ≤ 600000) (hw' : w + 9 ≤ 7302250) (k : ∀ (n' : Nat) (h' : hw), Iw P n' h' → Z K P n' h' (u + 1) (w + 9) 831 (lvL P b i) []) : Z K P n h u w 317 (lvL P b i) [] := by
  obtain ⟨f8, e0⟩ := I.e0
  have h59 := I.n59
  obtain ⟨r, n1, H1, H2, d, mc, ms, d2, fs, b1, b2, b3, b4, hC, h37, hM, hn, I2⟩ := st_rule P n h I (xs (i + 1)) (xs (i + 2)) (xs (i + 3)) (xs (i + 4))
  refine r_aload_n X dL_law_317 (pc' := 318) rfl rfl ?_
  refine r_arg (k := 1) X S dL_law_318 rfl dL_law_319 rfl dL_law_320 (by decide) rfl dL_law_321 rfl dL_law_322 (p5 := 323) rfl (by omega) ?_
  refine r_arg (k := 2) X S dL_law_323 rfl dL_law_324 rfl dL_law_325 (by decide) rfl dL_law_326 rfl dL_law_327 (p5 := 328) rfl (by omega) ?_
  refine r_arg (k := 3) X S dL_law_328 rfl dL_law_329 rfl dL_law_330 (by decide) rfl dL_law_331 rfl dL_law_332 (p5 := 333) rfl (by omega) ?_
  refine r_arg (k := 4) X S dL_law_333 rfl dL_law_334 rfl dL_law_335 (by decide) rfl dL_law_336 rfl dL_law_337 (p5 := 338) rfl (by omega) ?_
  refine r_callV (As := [_, _, _, _]) X okX8_rule lm_L_36 dL_law_338 (pc' := 341) rfl hC (by omega) e0 rfl rfl rfl rfl (Nat.le_of_ble_eq_true rfl) (by omega) (by omega) (by omega) ?_
  dsimp only [Option.toList, List.cons_append, List.nil_append]
  refine r_aload_n X dL_law_341 (pc' := 342) rfl rfl ?_
  refine r_arg (k := 1) X S dL_law_342 rfl dL_law_343 rfl dL_law_344 (by decide) rfl dL_law_345 rfl dL_law_346 (p5 := 347) rfl (by omega) ?_
  refine r_arg (k := 2) X S dL_law_347 rfl dL_law_348 rfl dL_law_349 (by decide) rfl dL_law_350 rfl dL_law_351 (p5 := 352) rfl (by omega) ?_
  refine r_arg (k := 3) X S dL_law_352 rfl dL_law_353 rfl dL_law_354 (by decide) rfl dL_law_355 rfl dL_law_356 (p5 := 357) rfl (by omega) ?_
  refine r_arg (k := 4) X S dL_law_357 rfl dL_law_358 rfl dL_law_359 (by decide) rfl dL_law_360 rfl dL_law_361 (p5 := 362) rfl (by omega) ?_
  refine r_callV (As := [_, _, _, _]) X okX9_rule lm_L_40 dL_law_362 (pc' := 365) rfl hM (by omega) h37 rfl rfl rfl rfl (Nat.le_of_ble_eq_true rfl) (by omega) (by omega) (by omega) ?_
  dsimp only [Option.toList, List.cons_append, List.nil_append]
  exact r_icmp_eq X dL_law_365 (tgt := 831) (by decide) (pc' := 368) rfl (fun _ => Z.mono (by omega) (by omega) (k n1 H2 I2)) (fun c => absurd rfl c)
set_option maxRecDepth 100000 in
set_option maxHeartbeats 1000000 in
theorem lc_unrule (X : Cx K P RL cL_law 4 9 600000 7302250) (S : Sc K P b L xs) {i : Nat} (I : Iw P n h) (hi : i + 5 ≤ L) (hu : u + 1 ≤ 600000) (hw' : w + 9 ≤ 7302250) (k : ∀ (n' : Nat) (h' : hw), Iw P n' h' → Z K P n' h' (u + 1) (w + 9) 831 (lvL P b i) []) : Z K P n h u w 370 (lvL P b i) [] := by
  obtain ⟨f8, e0⟩ := I.e0
  have h59 := I.n59
  obtain ⟨r, n1, H1, H2, d, mc, ms, d2, fs, b1, b2, b3, b4, hC, h37, hM, hn, I2⟩ := st_unrule P n h I (xs (i + 1)) (xs (i + 2))
  refine r_aload_n X dL_law_370 (pc' := 371) rfl rfl ?_
  refine r_arg (k := 1) X S dL_law_371 rfl dL_law_372 rfl dL_law_373 (by decide) rfl dL_law_374 rfl dL_law_375 (p5 := 376) rfl (by omega) ?_
  refine r_arg (k := 2) X S dL_law_376 rfl dL_law_377 rfl dL_law_378 (by decide) rfl dL_law_379 rfl dL_law_380 (p5 := 381) rfl (by omega) ?_
  refine r_callV (As := [_, _]) X okX8_unrule lm_L_41 dL_law_381 (pc' := 384) rfl hC (by omega) e0 rfl rfl rfl rfl (Nat.le_of_ble_eq_true rfl) (by omega) (by omega) (by omega) ?_
  dsimp only [Option.toList, List.cons_append, List.nil_append]
  refine r_aload_n X dL_law_384 (pc' := 385) rfl rfl ?_
  refine r_arg (k := 1) X S dL_law_385 rfl dL_law_386 rfl dL_law_387 (by decide) rfl dL_law_388 rfl dL_law_389 (p5 := 390) rfl (by omega) ?_
  refine r_arg (k := 2) X S dL_law_390 rfl dL_law_391 rfl dL_law_392 (by decide) rfl dL_law_393 rfl dL_law_394 (p5 := 395) rfl (by omega) ?_
  refine r_callV (As := [_, _]) X okX9_unrule lm_L_44 dL_law_395 (pc' := 398) rfl hM (by omega) h37 rfl rfl rfl rfl (Nat.le_of_ble_eq_true rfl) (by omega) (by omega) (by omega) ?_
  dsimp only [Option.toList, List.cons_append, List.nil_append]
  exact r_icmp_eq X dL_law_398 (tgt := 831) (by decide) (pc' := 401) rfl (fun _ => Z.mono (by omega) (by omega) (k n1 H2 I2)) (fun c => absurd rfl c)
set_option maxRecDepth 100000 in
set_option maxHeartbeats 1000000 in
theorem lc_ask (X : Cx K P RL cL_law 4 9 600000 7302250) (S : Sc K P b L xs) {i : Nat} (I : Iw P n h) (hi : i + 5 ≤ L) (hu : u + 1 ≤ 600000) (hw' : w + 9 ≤ 7302250) (k : ∀ (n' : Nat) (h' : hw), Iw P n' h' → Z K P n' h' (u + 1) (w + 9) 831 (lvL P b i) []) : Z K P n h u w 403 (lvL P b i) [] := by
  obtain ⟨f8, e0⟩ := I.e0
  have h59 := I.n59
  obtain ⟨r, n1, H1, H2, d, mc, ms, d2, fs, b1, b2, b3, b4, hC, h37, hM, hn, I2⟩ := st_ask P n h I (xs (i + 1))
  refine r_aload_n X dL_law_403 (pc' := 404) rfl rfl ?_
  refine r_arg (k := 1) X S dL_law_404 rfl dL_law_405 rfl dL_law_406 (by decide) rfl dL_law_407 rfl dL_law_408 (p5 := 409) rfl (by omega) ?_
  refine r_callV (As := [_]) X okX8_ask lm_L_45 dL_law_409 (pc' := 412) rfl hC (by omega) e0 rfl rfl rfl rfl (Nat.le_of_ble_eq_true rfl) (by omega) (by omega) (by omega) ?_
  dsimp only [Option.toList, List.cons_append, List.nil_append]
  refine r_aload_n X dL_law_412 (pc' := 413) rfl rfl ?_
  refine r_arg (k := 1) X S dL_law_413 rfl dL_law_414 rfl dL_law_415 (by decide) rfl dL_law_416 rfl dL_law_417 (p5 := 418) rfl (by omega) ?_
  refine r_callV (As := [_]) X okX9_ask lm_L_48 dL_law_418 (pc' := 421) rfl hM (by omega) h37 rfl rfl rfl rfl (Nat.le_of_ble_eq_true rfl) (by omega) (by omega) (by omega) ?_
  dsimp only [Option.toList, List.cons_append, List.nil_append]
  exact r_icmp_eq X dL_law_421 (tgt := 831) (by decide) (pc' := 424) rfl (fun _ => Z.mono (by omega) (by omega) (k n1 H2 I2)) (fun c => absurd rfl c)
set_option maxRecDepth 100000 in
set_option maxHeartbeats 1000000 in
theorem lc_behalf (X : Cx K P RL cL_law 4 9 600000 7302250) (S : Sc K P b L xs) {i : Nat} (I : Iw P n h) (hi : i + 5 ≤ L) (hu : u + 1 ≤ 600000) (hw' : w + 9 ≤ 7302250) (k : ∀ (n' : Nat) (h' : hw), Iw P n' h' → Z K P n' h' (u + 1) (w + 9) 831 (lvL P b i) []) : Z K P n h u w 426 (lvL P b i) [] := by
  obtain ⟨f8, e0⟩ := I.e0
  have h59 := I.n59
  obtain ⟨r, n1, H1, H2, d, mc, ms, d2, fs, b1, b2, b3, b4, hC, h37, hM, hn, I2⟩ := st_behalf P n h I (xs (i + 1)) (xs (i + 2))
  refine r_aload_n X dL_law_426 (pc' := 427) rfl rfl ?_
  refine r_arg (k := 1) X S dL_law_427 rfl dL_law_428 rfl dL_law_429 (by decide) rfl dL_law_430 rfl dL_law_431 (p5 := 432) rfl (by omega) ?_
  refine r_arg (k := 2) X S dL_law_432 rfl dL_law_433 rfl dL_law_434 (by decide) rfl dL_law_435 rfl dL_law_436 (p5 := 437) rfl (by omega) ?_
  refine r_callV (As := [_, _]) X okX8_behalf lm_L_49 dL_law_437 (pc' := 440) rfl hC (by omega) e0 rfl rfl rfl rfl (Nat.le_of_ble_eq_true rfl) (by omega) (by omega) (by omega) ?_
  dsimp only [Option.toList, List.cons_append, List.nil_append]
  refine r_aload_n X dL_law_440 (pc' := 441) rfl rfl ?_
  refine r_arg (k := 1) X S dL_law_441 rfl dL_law_442 rfl dL_law_443 (by decide) rfl dL_law_444 rfl dL_law_445 (p5 := 446) rfl (by omega) ?_
  refine r_arg (k := 2) X S dL_law_446 rfl dL_law_447 rfl dL_law_448 (by decide) rfl dL_law_449 rfl dL_law_450 (p5 := 451) rfl (by omega) ?_
  refine r_callV (As := [_, _]) X okX9_behalf lm_L_53 dL_law_451 (pc' := 454) rfl hM (by omega) h37 rfl rfl rfl rfl (Nat.le_of_ble_eq_true rfl) (by omega) (by omega) (by omega) ?_
  dsimp only [Option.toList, List.cons_append, List.nil_append]
  exact r_icmp_eq X dL_law_454 (tgt := 831) (by decide) (pc' := 457) rfl (fun _ => Z.mono (by omega) (by omega) (k n1 H2 I2)) (fun c => absurd rfl c)
set_option maxRecDepth 100000 in
set_option maxHeartbeats 1000000 in
theorem lc_why (X : Cx K P RL cL_law 4 9 600000 7302250) (S : Sc K P b L xs) {i : Nat} (I : Iw P n h) (hi : i + 5 ≤ L) (hu : u + 1 ≤ 600000) (hw' : w + 9 ≤ 7302250) (k : ∀ (n' : Nat) (h' : hw), Iw P n' h' → Z K P n' h' (u + 1) (w + 9) 831 (lvL P b i) []) : Z K P n h u w 459 (lvL P b i) [] := by
  obtain ⟨f8, e0⟩ := I.e0
  have h59 := I.n59
  obtain ⟨r, n1, H1, H2, d, mc, ms, d2, fs, b1, b2, b3, b4, hC, h37, hM, hn, I2⟩ := st_why P n h I (xs (i + 1)) (xs (i + 2))
  refine r_aload_n X dL_law_459 (pc' := 460) rfl rfl ?_
  refine r_arg (k := 1) X S dL_law_460 rfl dL_law_461 rfl dL_law_462 (by decide) rfl dL_law_463 rfl dL_law_464 (p5 := 465) rfl (by omega) ?_
  refine r_arg (k := 2) X S dL_law_465 rfl dL_law_466 rfl dL_law_467 (by decide) rfl dL_law_468 rfl dL_law_469 (p5 := 470) rfl (by omega) ?_
  refine r_callV (As := [_, _]) X okX8_why lm_L_54 dL_law_470 (pc' := 473) rfl hC (by omega) e0 rfl rfl rfl rfl (Nat.le_of_ble_eq_true rfl) (by omega) (by omega) (by omega) ?_
  dsimp only [Option.toList, List.cons_append, List.nil_append]
  refine r_aload_n X dL_law_473 (pc' := 474) rfl rfl ?_
  refine r_arg (k := 1) X S dL_law_474 rfl dL_law_475 rfl dL_law_476 (by decide) rfl dL_law_477 rfl dL_law_478 (p5 := 479) rfl (by omega) ?_
  refine r_arg (k := 2) X S dL_law_479 rfl dL_law_480 rfl dL_law_481 (by decide) rfl dL_law_482 rfl dL_law_483 (p5 := 484) rfl (by omega) ?_
  refine r_callV (As := [_, _]) X okX9_why lm_L_57 dL_law_484 (pc' := 487) rfl hM (by omega) h37 rfl rfl rfl rfl (Nat.le_of_ble_eq_true rfl) (by omega) (by omega) (by omega) ?_
  dsimp only [Option.toList, List.cons_append, List.nil_append]
  exact r_icmp_eq X dL_law_487 (tgt := 831) (by decide) (pc' := 490) rfl (fun _ => Z.mono (by omega) (by omega) (k n1 H2 I2)) (fun c => absurd rfl c)
set_option maxRecDepth 100000 in
set_option maxHeartbeats 1000000 in
theorem lc_facts (X : Cx K P RL cL_law 4 9 600000 7302250) (S : Sc K P b L xs) {i : Nat} (I : Iw P n h) (hi : i + 5 ≤ L) (hu : u + 1 ≤ 600000) (hw' : w + 9 ≤ 7302250) (k : ∀ (n' : Nat) (h' : hw), Iw P n' h' → Z K P n' h' (u + 1) (w + 9) 831 (lvL P b i) []) : Z K P n h u w 492 (lvL P b i) [] := by
  obtain ⟨f8, e0⟩ := I.e0
  have h59 := I.n59
  obtain ⟨r, n1, H1, H2, d, mc, ms, d2, fs, b1, b2, b3, b4, hC, h37, hM, hn, I2⟩ := st_facts P n h I (xs (i + 1))
  refine r_aload_n X dL_law_492 (pc' := 493) rfl rfl ?_
  refine r_arg (k := 1) X S dL_law_493 rfl dL_law_494 rfl dL_law_495 (by decide) rfl dL_law_496 rfl dL_law_497 (p5 := 498) rfl (by omega) ?_
  refine r_callV (As := [_]) X okX8_facts lm_L_58 dL_law_498 (pc' := 501) rfl hC (by omega) e0 rfl rfl rfl rfl (Nat.le_of_ble_eq_true rfl) (by omega) (by omega) (by omega) ?_
  dsimp only [Option.toList, List.cons_append, List.nil_append]
  refine r_aload_n X dL_law_501 (pc' := 502) rfl rfl ?_
  refine r_arg (k := 1) X S dL_law_502 rfl dL_law_503 rfl dL_law_504 (by decide) rfl dL_law_505 rfl dL_law_506 (p5 := 507) rfl (by omega) ?_
  refine r_callV (As := [_]) X okX9_facts lm_L_61 dL_law_507 (pc' := 510) rfl hM (by omega) h37 rfl rfl rfl rfl (Nat.le_of_ble_eq_true rfl) (by omega) (by omega) (by omega) ?_
  dsimp only [Option.toList, List.cons_append, List.nil_append]
  exact r_icmp_eq X dL_law_510 (tgt := 831) (by decide) (pc' := 513) rfl (fun _ => Z.mono (by omega) (by omega) (k n1 H2 I2)) (fun c => absurd rfl c)
set_option maxRecDepth 100000 in
set_option maxHeartbeats 1000000 in
theorem lc_judge (X : Cx K P RL cL_law 4 9 600000 7302250) (S : Sc K P b L xs) {i : Nat} (I : Iw P n h) (hi : i + 5 ≤ L) (hu : u + 1 ≤ 600000) (hw' : w + 9 ≤ 7302250) (k : ∀ (n' : Nat) (h' : hw), Iw P n' h' → Z K P n' h' (u + 1) (w + 9) 831 (lvL P b i) []) : Z K P n h u w 515 (lvL P b i) [] := by
  obtain ⟨f8, e0⟩ := I.e0
  have h59 := I.n59
  obtain ⟨r, n1, H1, H2, d, mc, ms, d2, fs, b1, b2, b3, b4, hC, h37, hM, hn, I2⟩ := st_judge P n h I (xs (i + 1)) (xs (i + 2)) (xs (i + 3))
  refine r_aload_n X dL_law_515 (pc' := 516) rfl rfl ?_
  refine r_arg (k := 1) X S dL_law_516 rfl dL_law_517 rfl dL_law_518 (by decide) rfl dL_law_519 rfl dL_law_520 (p5 := 521) rfl (by omega) ?_
  refine r_arg (k := 2) X S dL_law_521 rfl dL_law_522 rfl dL_law_523 (by decide) rfl dL_law_524 rfl dL_law_525 (p5 := 526) rfl (by omega) ?_
  refine r_arg (k := 3) X S dL_law_526 rfl dL_law_527 rfl dL_law_528 (by decide) rfl dL_law_529 rfl dL_law_530 (p5 := 531) rfl (by omega) ?_
  refine r_callV (As := [_, _, _]) X okX8_judge lm_L_62 dL_law_531 (pc' := 534) rfl hC (by omega) e0 rfl rfl rfl rfl (Nat.le_of_ble_eq_true rfl) (by omega) (by omega) (by omega) ?_
  dsimp only [Option.toList, List.cons_append, List.nil_append]
  refine r_aload_n X dL_law_534 (pc' := 535) rfl rfl ?_
  refine r_arg (k := 1) X S dL_law_535 rfl dL_law_536 rfl dL_law_537 (by decide) rfl dL_law_538 rfl dL_law_539 (p5 := 540) rfl (by omega) ?_
  refine r_arg (k := 2) X S dL_law_540 rfl dL_law_541 rfl dL_law_542 (by decide) rfl dL_law_543 rfl dL_law_544 (p5 := 545) rfl (by omega) ?_
  refine r_arg (k := 3) X S dL_law_545 rfl dL_law_546 rfl dL_law_547 (by decide) rfl dL_law_548 rfl dL_law_549 (p5 := 550) rfl (by omega) ?_
  refine r_callV (As := [_, _, _]) X okX9_judge lm_L_65 dL_law_550 (pc' := 553) rfl hM (by omega) h37 rfl rfl rfl rfl (Nat.le_of_ble_eq_true rfl) (by omega) (by omega) (by omega) ?_
  dsimp only [Option.toList, List.cons_append, List.nil_append]
  exact r_icmp_eq X dL_law_553 (tgt := 831) (by decide) (pc' := 556) rfl (fun _ => Z.mono (by omega) (by omega) (k n1 H2 I2)) (fun c => absurd rfl c)
set_option maxRecDepth 100000 in
set_option maxHeartbeats 1000000 in
theorem lc_judged (X : Cx K P RL cL_law 4 9 600000 7302250) (S : Sc K P b L xs) {i : Nat} (I : Iw P n h) (hi : i + 5 ≤ L) (hu : u + 1 ≤ 600000) (hw' : w + 9 ≤ 7302250) (k : ∀ (n' : Nat) (h' : hw), Iw P n' h' → Z K P n' h' (u + 1) (w + 9) 831 (lvL P b i) []) : Z K P n h u w 558 (lvL P b i) [] := by
  obtain ⟨f8, e0⟩ := I.e0
  have h59 := I.n59
  obtain ⟨r, n1, H1, H2, d, mc, ms, d2, fs, b1, b2, b3, b4, hC, h37, hM, hn, I2⟩ := st_judged P n h I (xs (i + 1)) (xs (i + 2))
  refine r_aload_n X dL_law_558 (pc' := 559) rfl rfl ?_
  refine r_arg (k := 1) X S dL_law_559 rfl dL_law_560 rfl dL_law_561 (by decide) rfl dL_law_562 rfl dL_law_563 (p5 := 564) rfl (by omega) ?_
  refine r_arg (k := 2) X S dL_law_564 rfl dL_law_565 rfl dL_law_566 (by decide) rfl dL_law_567 rfl dL_law_568 (p5 := 569) rfl (by omega) ?_
  refine r_callV (As := [_, _]) X okX8_judged lm_L_66 dL_law_569 (pc' := 572) rfl hC (by omega) e0 rfl rfl rfl rfl (Nat.le_of_ble_eq_true rfl) (by omega) (by omega) (by omega) ?_
  dsimp only [Option.toList, List.cons_append, List.nil_append]
  refine r_aload_n X dL_law_572 (pc' := 573) rfl rfl ?_
  refine r_arg (k := 1) X S dL_law_573 rfl dL_law_574 rfl dL_law_575 (by decide) rfl dL_law_576 rfl dL_law_577 (p5 := 578) rfl (by omega) ?_
  refine r_arg (k := 2) X S dL_law_578 rfl dL_law_579 rfl dL_law_580 (by decide) rfl dL_law_581 rfl dL_law_582 (p5 := 583) rfl (by omega) ?_
  refine r_callV (As := [_, _]) X okX9_judged lm_L_69 dL_law_583 (pc' := 586) rfl hM (by omega) h37 rfl rfl rfl rfl (Nat.le_of_ble_eq_true rfl) (by omega) (by omega) (by omega) ?_
  dsimp only [Option.toList, List.cons_append, List.nil_append]
  exact r_icmp_eq X dL_law_586 (tgt := 831) (by decide) (pc' := 589) rfl (fun _ => Z.mono (by omega) (by omega) (k n1 H2 I2)) (fun c => absurd rfl c)
set_option maxRecDepth 100000 in
set_option maxHeartbeats 1000000 in
theorem lc_keeps (X : Cx K P RL cL_law 4 9 600000 7302250) (S : Sc K P b L xs) {i : Nat} (I : Iw P n h) (hi : i + 5 ≤ L) (hu : u + 1 ≤ 600000) (hw' : w + 9 ≤ 7302250) (k : ∀ (n' : Nat) (h' : hw), Iw P n' h' → Z K P n' h' (u + 1) (w + 9) 831 (lvL P b i) []) : Z K P n h u w 591 (lvL P b i) [] := by
  obtain ⟨f8, e0⟩ := I.e0
  have h59 := I.n59
  obtain ⟨r, n1, H1, H2, d, mc, ms, d2, fs, b1, b2, b3, b4, hC, h37, hM, hn, I2⟩ := st_keeps P n h I (xs (i + 1))
  refine r_aload_n X dL_law_591 (pc' := 592) rfl rfl ?_
  refine r_arg (k := 1) X S dL_law_592 rfl dL_law_593 rfl dL_law_594 (by decide) rfl dL_law_595 rfl dL_law_596 (p5 := 597) rfl (by omega) ?_
  refine r_callV (As := [_]) X okX8_keeps lm_L_70 dL_law_597 (pc' := 600) rfl hC (by omega) e0 rfl rfl rfl rfl (Nat.le_of_ble_eq_true rfl) (by omega) (by omega) (by omega) ?_
  dsimp only [Option.toList, List.cons_append, List.nil_append]
  refine r_aload_n X dL_law_600 (pc' := 601) rfl rfl ?_
  refine r_arg (k := 1) X S dL_law_601 rfl dL_law_602 rfl dL_law_603 (by decide) rfl dL_law_604 rfl dL_law_605 (p5 := 606) rfl (by omega) ?_
  refine r_callV (As := [_]) X okX9_keeps lm_L_73 dL_law_606 (pc' := 609) rfl hM (by omega) h37 rfl rfl rfl rfl (Nat.le_of_ble_eq_true rfl) (by omega) (by omega) (by omega) ?_
  dsimp only [Option.toList, List.cons_append, List.nil_append]
  exact r_icmp_eq X dL_law_609 (tgt := 831) (by decide) (pc' := 612) rfl (fun _ => Z.mono (by omega) (by omega) (k n1 H2 I2)) (fun c => absurd rfl c)
set_option maxRecDepth 100000 in
set_option maxHeartbeats 1000000 in
theorem lc_law (X : Cx K P RL cL_law 4 9 600000 7302250) (S : Sc K P b L xs) {i : Nat} (I : Iw P n h) (hi : i + 5 ≤ L) (hu : u + 1 ≤ 600000) (hw' : w + 9 ≤ 7302250) (k : ∀ (n' : Nat) (h' : hw), Iw P n' h' → Z K P n' h' (u + 1) (w + 9) 831 (lvL P b i) []) : Z K P n h u w 614 (lvL P b i) [] := by
  obtain ⟨f8, e0⟩ := I.e0
  have h59 := I.n59
  obtain ⟨r, n1, H1, H2, d, mc, ms, d2, fs, b1, b2, b3, b4, hC, h37, hM, hn, I2⟩ := st_law P n h I (xs (i + 1)) (xs (i + 2))
  refine r_aload_n X dL_law_614 (pc' := 615) rfl rfl ?_
  refine r_arg (k := 1) X S dL_law_615 rfl dL_law_616 rfl dL_law_617 (by decide) rfl dL_law_618 rfl dL_law_619 (p5 := 620) rfl (by omega) ?_
  refine r_arg (k := 2) X S dL_law_620 rfl dL_law_621 rfl dL_law_622 (by decide) rfl dL_law_623 rfl dL_law_624 (p5 := 625) rfl (by omega) ?_
  refine r_callV (As := [_, _]) X okX8_law lm_L_74 dL_law_625 (pc' := 628) rfl hC (by omega) e0 rfl rfl rfl rfl (Nat.le_of_ble_eq_true rfl) (by omega) (by omega) (by omega) ?_
  dsimp only [Option.toList, List.cons_append, List.nil_append]
  refine r_aload_n X dL_law_628 (pc' := 629) rfl rfl ?_
  refine r_arg (k := 1) X S dL_law_629 rfl dL_law_630 rfl dL_law_631 (by decide) rfl dL_law_632 rfl dL_law_633 (p5 := 634) rfl (by omega) ?_
  refine r_arg (k := 2) X S dL_law_634 rfl dL_law_635 rfl dL_law_636 (by decide) rfl dL_law_637 rfl dL_law_638 (p5 := 639) rfl (by omega) ?_
  refine r_callV (As := [_, _]) X okX9_law lm_L_77 dL_law_639 (pc' := 642) rfl hM (by omega) h37 rfl rfl rfl rfl (Nat.le_of_ble_eq_true rfl) (by omega) (by omega) (by omega) ?_
  dsimp only [Option.toList, List.cons_append, List.nil_append]
  exact r_icmp_eq X dL_law_642 (tgt := 831) (by decide) (pc' := 645) rfl (fun _ => Z.mono (by omega) (by omega) (k n1 H2 I2)) (fun c => absurd rfl c)
set_option maxRecDepth 100000 in
set_option maxHeartbeats 1000000 in
theorem lc_idle (X : Cx K P RL cL_law 4 9 600000 7302250) (S : Sc K P b L xs) {i : Nat} (I : Iw P n h) (hi : i + 5 ≤ L) (hu : u + 1 ≤ 600000) (hw' : w + 9 ≤ 7302250) (k : ∀ (n' : Nat) (h' : hw), Iw P n' h' → Z K P n' h' (u + 1) (w + 9) 831 (lvL P b i) []) : Z K P n h u w 647 (lvL P b i) [] := by
  obtain ⟨f8, e0⟩ := I.e0
  have h59 := I.n59
  obtain ⟨r, n1, H1, H2, d, mc, ms, d2, fs, b1, b2, b3, b4, hC, h37, hM, hn, I2⟩ := st_idle P n h I (xs (i + 1)) (xs (i + 2))
  refine r_aload_n X dL_law_647 (pc' := 648) rfl rfl ?_
  refine r_arg (k := 1) X S dL_law_648 rfl dL_law_649 rfl dL_law_650 (by decide) rfl dL_law_651 rfl dL_law_652 (p5 := 653) rfl (by omega) ?_
  refine r_arg (k := 2) X S dL_law_653 rfl dL_law_654 rfl dL_law_655 (by decide) rfl dL_law_656 rfl dL_law_657 (p5 := 658) rfl (by omega) ?_
  refine r_callV (As := [_, _]) X okX8_idle lm_L_78 dL_law_658 (pc' := 661) rfl hC (by omega) e0 rfl rfl rfl rfl (Nat.le_of_ble_eq_true rfl) (by omega) (by omega) (by omega) ?_
  dsimp only [Option.toList, List.cons_append, List.nil_append]
  refine r_aload_n X dL_law_661 (pc' := 662) rfl rfl ?_
  refine r_arg (k := 1) X S dL_law_662 rfl dL_law_663 rfl dL_law_664 (by decide) rfl dL_law_665 rfl dL_law_666 (p5 := 667) rfl (by omega) ?_
  refine r_arg (k := 2) X S dL_law_667 rfl dL_law_668 rfl dL_law_669 (by decide) rfl dL_law_670 rfl dL_law_671 (p5 := 672) rfl (by omega) ?_
  refine r_callV (As := [_, _]) X okX9_idle lm_L_81 dL_law_672 (pc' := 675) rfl hM (by omega) h37 rfl rfl rfl rfl (Nat.le_of_ble_eq_true rfl) (by omega) (by omega) (by omega) ?_
  dsimp only [Option.toList, List.cons_append, List.nil_append]
  exact r_icmp_eq X dL_law_675 (tgt := 831) (by decide) (pc' := 678) rfl (fun _ => Z.mono (by omega) (by omega) (k n1 H2 I2)) (fun c => absurd rfl c)
set_option maxRecDepth 100000 in
set_option maxHeartbeats 1000000 in
theorem lc_quarrel (X : Cx K P RL cL_law 4 9 600000 7302250) (S : Sc K P b L xs) {i : Nat} (I : Iw P n h) (hi : i + 5 ≤ L) (hu : u + 1 ≤ 600000) (hw' : w + 9 ≤ 7302250) (k : ∀ (n' : Nat) (h' : hw), Iw P n' h' → Z K P n' h' (u + 1) (w + 9) 831 (lvL P b i) []) : Z K P n h u w 680 (lvL P b i) [] := by
  obtain ⟨f8, e0⟩ := I.e0
  have h59 := I.n59
  obtain ⟨r, n1, H1, H2, d, mc, ms, d2, fs, b1, b2, b3, b4, hC, h37, hM, hn, I2⟩ := st_quarrel P n h I (xs (i + 1)) (xs (i + 2)) (xs (i + 3))
  refine r_aload_n X dL_law_680 (pc' := 681) rfl rfl ?_
  refine r_arg (k := 1) X S dL_law_681 rfl dL_law_682 rfl dL_law_683 (by decide) rfl dL_law_684 rfl dL_law_685 (p5 := 686) rfl (by omega) ?_
  refine r_arg (k := 2) X S dL_law_686 rfl dL_law_687 rfl dL_law_688 (by decide) rfl dL_law_689 rfl dL_law_690 (p5 := 691) rfl (by omega) ?_
  refine r_arg (k := 3) X S dL_law_691 rfl dL_law_692 rfl dL_law_693 (by decide) rfl dL_law_694 rfl dL_law_695 (p5 := 696) rfl (by omega) ?_
  refine r_callV (As := [_, _, _]) X okX8_quarrel lm_L_82 dL_law_696 (pc' := 699) rfl hC (by omega) e0 rfl rfl rfl rfl (Nat.le_of_ble_eq_true rfl) (by omega) (by omega) (by omega) ?_
  dsimp only [Option.toList, List.cons_append, List.nil_append]
  refine r_aload_n X dL_law_699 (pc' := 700) rfl rfl ?_
  refine r_arg (k := 1) X S dL_law_700 rfl dL_law_701 rfl dL_law_702 (by decide) rfl dL_law_703 rfl dL_law_704 (p5 := 705) rfl (by omega) ?_
  refine r_arg (k := 2) X S dL_law_705 rfl dL_law_706 rfl dL_law_707 (by decide) rfl dL_law_708 rfl dL_law_709 (p5 := 710) rfl (by omega) ?_
  refine r_arg (k := 3) X S dL_law_710 rfl dL_law_711 rfl dL_law_712 (by decide) rfl dL_law_713 rfl dL_law_714 (p5 := 715) rfl (by omega) ?_
  refine r_callV (As := [_, _, _]) X okX9_quarrel lm_L_86 dL_law_715 (pc' := 718) rfl hM (by omega) h37 rfl rfl rfl rfl (Nat.le_of_ble_eq_true rfl) (by omega) (by omega) (by omega) ?_
  dsimp only [Option.toList, List.cons_append, List.nil_append]
  exact r_icmp_eq X dL_law_718 (tgt := 831) (by decide) (pc' := 721) rfl (fun _ => Z.mono (by omega) (by omega) (k n1 H2 I2)) (fun c => absurd rfl c)
set_option maxRecDepth 100000 in
set_option maxHeartbeats 1000000 in
theorem lc_log (X : Cx K P RL cL_law 4 9 600000 7302250) (S : Sc K P b L xs) {i : Nat} (I : Iw P n h) (hi : i + 5 ≤ L) (hu : u + 1 ≤ 600000) (hw' : w + 9 ≤ 7302250) (k : ∀ (n' : Nat) (h' : hw), Iw P n' h' → Z K P n' h' (u + 1) (w + 9) 831 (lvL P b i) []) : Z K P n h u w 723 (lvL P b i) [] := by
  obtain ⟨f8, e0⟩ := I.e0
  have h59 := I.n59
  obtain ⟨r, n1, H1, H2, d, mc, ms, d2, fs, b1, b2, b3, b4, hC, h37, hM, hn, I2⟩ := st_log P n h I (xs (i + 1)) (xs (i + 2))
  refine r_aload_n X dL_law_723 (pc' := 724) rfl rfl ?_
  refine r_arg (k := 1) X S dL_law_724 rfl dL_law_725 rfl dL_law_726 (by decide) rfl dL_law_727 rfl dL_law_728 (p5 := 729) rfl (by omega) ?_
  refine r_arg (k := 2) X S dL_law_729 rfl dL_law_730 rfl dL_law_731 (by decide) rfl dL_law_732 rfl dL_law_733 (p5 := 734) rfl (by omega) ?_
  refine r_callV (As := [_, _]) X okX8_log lm_L_87 dL_law_734 (pc' := 737) rfl hC (by omega) e0 rfl rfl rfl rfl (Nat.le_of_ble_eq_true rfl) (by omega) (by omega) (by omega) ?_
  dsimp only [Option.toList, List.cons_append, List.nil_append]
  refine r_aload_n X dL_law_737 (pc' := 738) rfl rfl ?_
  refine r_arg (k := 1) X S dL_law_738 rfl dL_law_739 rfl dL_law_740 (by decide) rfl dL_law_741 rfl dL_law_742 (p5 := 743) rfl (by omega) ?_
  refine r_arg (k := 2) X S dL_law_743 rfl dL_law_744 rfl dL_law_745 (by decide) rfl dL_law_746 rfl dL_law_747 (p5 := 748) rfl (by omega) ?_
  refine r_callV (As := [_, _]) X okX9_log lm_L_90 dL_law_748 (pc' := 751) rfl hM (by omega) h37 rfl rfl rfl rfl (Nat.le_of_ble_eq_true rfl) (by omega) (by omega) (by omega) ?_
  dsimp only [Option.toList, List.cons_append, List.nil_append]
  exact r_icmp_eq X dL_law_751 (tgt := 831) (by decide) (pc' := 754) rfl (fun _ => Z.mono (by omega) (by omega) (k n1 H2 I2)) (fun c => absurd rfl c)
set_option maxRecDepth 100000 in
set_option maxHeartbeats 1000000 in
theorem lc_lost (X : Cx K P RL cL_law 4 9 600000 7302250) (S : Sc K P b L xs) {i : Nat} (I : Iw P n h) (hi : i + 5 ≤ L) (hu : u + 1 ≤ 600000) (hw' : w + 9 ≤ 7302250) (k : ∀ (n' : Nat) (h' : hw), Iw P n' h' → Z K P n' h' (u + 1) (w + 9) 831 (lvL P b i) []) : Z K P n h u w 756 (lvL P b i) [] := by
  obtain ⟨f8, e0⟩ := I.e0
  have h59 := I.n59
  obtain ⟨r, n1, H1, H2, d, mc, ms, d2, fs, b1, b2, b3, b4, hC, h37, hM, hn, I2⟩ := st_lost P n h I
  refine r_aload_n X dL_law_756 (pc' := 757) rfl rfl ?_
  refine r_callV (As := []) X okX8_lost lm_L_91 dL_law_757 (pc' := 760) rfl hC (by omega) e0 rfl rfl rfl rfl (Nat.le_of_ble_eq_true rfl) (by omega) (by omega) (by omega) ?_
  dsimp only [Option.toList, List.cons_append, List.nil_append]
  refine r_aload_n X dL_law_760 (pc' := 761) rfl rfl ?_
  refine r_callV (As := []) X okX9_lost lm_L_95 dL_law_761 (pc' := 764) rfl hM (by omega) h37 rfl rfl rfl rfl (Nat.le_of_ble_eq_true rfl) (by omega) (by omega) (by omega) ?_
  dsimp only [Option.toList, List.cons_append, List.nil_append]
  exact r_icmp_eq X dL_law_764 (tgt := 831) (by decide) (pc' := 767) rfl (fun _ => Z.mono (by omega) (by omega) (k n1 H2 I2)) (fun c => absurd rfl c)
set_option maxRecDepth 100000 in
set_option maxHeartbeats 1000000 in
theorem lc_move (X : Cx K P RL cL_law 4 9 600000 7302250) (S : Sc K P b L xs) {i : Nat} (I : Iw P n h) (hi : i + 5 ≤ L) (hu : u + 1 ≤ 600000) (hw' : w + 9 ≤ 7302250) (k : ∀ (n' : Nat) (h' : hw), Iw P n' h' → Z K P n' h' (u + 1) (w + 9) 831 (lvL P b i) []) : Z K P n h u w 769 (lvL P b i) [] := by
  obtain ⟨f8, e0⟩ := I.e0
  have h59 := I.n59
  by_cases cz : xs (i + 1) = 0
  · obtain ⟨r, n1, H1, H2, d, mc, ms, d2, fs, b1, b2, b3, b4, hC, h37, hM, hn, I2⟩ := st_move P n h I 0
    refine r_aload_n X dL_law_769 (pc' := 770) rfl rfl ?_
    refine r_arg (k := 1) X S dL_law_770 rfl dL_law_771 rfl dL_law_772 (by decide) rfl dL_law_773 rfl dL_law_774 (p5 := 775) rfl (by omega) ?_
    refine r_if_eq X dL_law_775 (tgt := 782) (by decide) (pc' := 778) rfl (fun _ => ?_) (fun c => absurd cz c)
    refine r_iconst (v := 0) X (by decide) dL_law_782 (pc' := 783) rfl ?_
    refine r_callV (As := [_]) X okX8_move lm_L_96 dL_law_783 (pc' := 786) rfl hC (by omega) e0 rfl rfl rfl rfl (Nat.le_of_ble_eq_true rfl) (by omega) (by omega) (by omega) ?_
    dsimp only [Option.toList, List.cons_append, List.nil_append]
    refine r_aload_n X dL_law_786 (pc' := 787) rfl rfl ?_
    refine r_arg (k := 1) X S dL_law_787 rfl dL_law_788 rfl dL_law_789 (by decide) rfl dL_law_790 rfl dL_law_791 (p5 := 792) rfl (by omega) ?_
    refine r_if_eq X dL_law_792 (tgt := 799) (by decide) (pc' := 795) rfl (fun _ => ?_) (fun c => absurd cz c)
    refine r_iconst (v := 0) X (by decide) dL_law_799 (pc' := 800) rfl ?_
    refine r_callV (As := [_]) X okX9_move lm_L_100 dL_law_800 (pc' := 803) rfl hM (by omega) h37 rfl rfl rfl rfl (Nat.le_of_ble_eq_true rfl) (by omega) (by omega) (by omega) ?_
    dsimp only [Option.toList, List.cons_append, List.nil_append]
    exact r_icmp_eq X dL_law_803 (tgt := 831) (by decide) (pc' := 806) rfl (fun _ => Z.mono (by omega) (by omega) (k n1 H2 I2)) (fun c => absurd rfl c)
  · obtain ⟨r, n1, H1, H2, d, mc, ms, d2, fs, b1, b2, b3, b4, hC, h37, hM, hn, I2⟩ := st_move P n h I 1
    refine r_aload_n X dL_law_769 (pc' := 770) rfl rfl ?_
    refine r_arg (k := 1) X S dL_law_770 rfl dL_law_771 rfl dL_law_772 (by decide) rfl dL_law_773 rfl dL_law_774 (p5 := 775) rfl (by omega) ?_
    refine r_if_eq X dL_law_775 (tgt := 782) (by decide) (pc' := 778) rfl (fun c => absurd c cz) (fun _ => ?_)
    refine r_iconst (v := 1) X (by decide) dL_law_778 (pc' := 779) rfl ?_
    refine r_goto (tgt := 783) X dL_law_779 (by decide) ?_
    refine r_callV (As := [_]) X okX8_move lm_L_96 dL_law_783 (pc' := 786) rfl hC (by omega) e0 rfl rfl rfl rfl (Nat.le_of_ble_eq_true rfl) (by omega) (by omega) (by omega) ?_
    dsimp only [Option.toList, List.cons_append, List.nil_append]
    refine r_aload_n X dL_law_786 (pc' := 787) rfl rfl ?_
    refine r_arg (k := 1) X S dL_law_787 rfl dL_law_788 rfl dL_law_789 (by decide) rfl dL_law_790 rfl dL_law_791 (p5 := 792) rfl (by omega) ?_
    refine r_if_eq X dL_law_792 (tgt := 799) (by decide) (pc' := 795) rfl (fun c => absurd c cz) (fun _ => ?_)
    refine r_iconst (v := 1) X (by decide) dL_law_795 (pc' := 796) rfl ?_
    refine r_goto (tgt := 800) X dL_law_796 (by decide) ?_
    refine r_callV (As := [_]) X okX9_move lm_L_100 dL_law_800 (pc' := 803) rfl hM (by omega) h37 rfl rfl rfl rfl (Nat.le_of_ble_eq_true rfl) (by omega) (by omega) (by omega) ?_
    dsimp only [Option.toList, List.cons_append, List.nil_append]
    exact r_icmp_eq X dL_law_803 (tgt := 831) (by decide) (pc' := 806) rfl (fun _ => Z.mono (by omega) (by omega) (k n1 H2 I2)) (fun c => absurd rfl c)
set_option maxRecDepth 100000 in
set_option maxHeartbeats 1000000 in
theorem lc_count (X : Cx K P RL cL_law 4 9 600000 7302250) (S : Sc K P b L xs) {i : Nat} (I : Iw P n h) (hi : i + 5 ≤ L) (hu : u + 1 ≤ 600000) (hw' : w + 9 ≤ 7302250) (k : ∀ (n' : Nat) (h' : hw), Iw P n' h' → Z K P n' h' (u + 1) (w + 9) 831 (lvL P b i) []) : Z K P n h u w 808 (lvL P b i) [] := by
  obtain ⟨f8, e0⟩ := I.e0
  have h59 := I.n59
  obtain ⟨r, n1, H1, H2, d, mc, ms, d2, fs, b1, b2, b3, b4, hC, h37, hM, hn, I2⟩ := st_count P n h I (xs (i + 1))
  refine r_aload_n X dL_law_808 (pc' := 809) rfl rfl ?_
  refine r_arg (k := 1) X S dL_law_809 rfl dL_law_810 rfl dL_law_811 (by decide) rfl dL_law_812 rfl dL_law_813 (p5 := 814) rfl (by omega) ?_
  refine r_callV (As := [_]) X okX8_count lm_L_101 dL_law_814 (pc' := 817) rfl hC (by omega) e0 rfl rfl rfl rfl (Nat.le_of_ble_eq_true rfl) (by omega) (by omega) (by omega) ?_
  dsimp only [Option.toList, List.cons_append, List.nil_append]
  refine r_aload_n X dL_law_817 (pc' := 818) rfl rfl ?_
  refine r_arg (k := 1) X S dL_law_818 rfl dL_law_819 rfl dL_law_820 (by decide) rfl dL_law_821 rfl dL_law_822 (p5 := 823) rfl (by omega) ?_
  refine r_callV (As := [_]) X okX9_count lm_L_104 dL_law_823 (pc' := 826) rfl hM (by omega) h37 rfl rfl rfl rfl (Nat.le_of_ble_eq_true rfl) (by omega) (by omega) (by omega) ?_
  dsimp only [Option.toList, List.cons_append, List.nil_append]
  exact r_icmp_eq X dL_law_826 (tgt := 831) (by decide) (pc' := 829) rfl (fun _ => Z.mono (by omega) (by omega) (k n1 H2 I2)) (fun c => absurd rfl c)
end ZLC
