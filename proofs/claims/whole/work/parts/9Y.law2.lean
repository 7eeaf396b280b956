theorem lg_cmp_rf (x : Int64) : lg_cmp x x = 0 := by
  unfold lg_cmp
  simp
/-! ===== the law: the calls of one line of the script ===== -/
set_option maxHeartbeats 4000000 in
set_option maxRecDepth 20000 in
theorem law_mill {X : jX} {v : Int} {N : jM} (hv : 0 ≤ v ∧ v + 6 ≤ (X.1 : Int)) (hL : X.1 ≤ 3072) (I : ∃ f g Z, jIn f g Z N) (K : ∀ O, (∃ f g Z, jIn f g Z O) → jG D_L_law X FL shJ 111 13628 QL 1565 [(0, jR (-2)), (1, jR 0), (2, jR 74), (3, jI v)] [] O) : jG D_L_law X FL shJ 111 13628 QL 188 [(0, jR (-2)), (1, jR 0), (2, jR 74), (3, jI v)] [] N := by
  obtain ⟨f, g, Z, I⟩ := I
  refine j_aload_n 1 dL_law_188 rfl rfl ?_
  refine j_aload_n 0 dL_law_189 rfl rfl ?_
  refine j_iload_n 3 dL_law_190 rfl rfl ?_
  refine j_iconst dL_law_191 (by decide) ?_
  refine j_iadd dL_law_192 (by omega) ?_
  refine j_sld (i := v + 1) ⟨by omega, by omega, by omega⟩ dL_law_193 ?_
  refine j_aload_n 0 dL_law_194 rfl rfl ?_
  refine j_iload_n 3 dL_law_195 rfl rfl ?_
  refine j_iconst dL_law_196 (by decide) ?_
  refine j_iadd dL_law_197 (by omega) ?_
  refine j_sld (i := v + 2) ⟨by omega, by omega, by omega⟩ dL_law_198 ?_
  refine j_aload_n 0 dL_law_199 rfl rfl ?_
  refine j_iload_n 3 dL_law_200 rfl rfl ?_
  refine j_iconst dL_law_201 (by decide) ?_
  refine j_iadd dL_law_202 (by omega) ?_
  refine j_sld (i := v + 3) ⟨by omega, by omega, by omega⟩ dL_law_203 ?_
  refine j_callViG l_L_13 ⟨Nat.le_of_ble_eq_true rfl, Nat.le_of_ble_eq_true rfl⟩ ⟨rfl, rfl⟩ ⟨Nat.le_of_ble_eq_true rfl, Nat.le_of_ble_eq_true rfl⟩ dL_law_204 ob_0 (c_X8_mill N (X.2 (v + 1).toNat).toInt (X.2 (v + 2).toNat).toInt (X.2 (v + 3).toNat).toInt (af_cmills I)) rfl rfl (Nat.le_of_ble_eq_true rfl) (fun r1 N1 h8 => ?_)
  have k : rSm N N1 := kc_mill h8
  refine j_aload_n 2 dL_law_207 rfl rfl ?_
  refine j_aload_n 0 dL_law_208 rfl rfl ?_
  refine j_iload_n 3 dL_law_209 rfl rfl ?_
  refine j_iconst dL_law_210 (by decide) ?_
  refine j_iadd dL_law_211 (by omega) ?_
  refine j_sld (i := v + 1) ⟨by omega, by omega, by omega⟩ dL_law_212 ?_
  refine j_aload_n 0 dL_law_213 rfl rfl ?_
  refine j_iload_n 3 dL_law_214 rfl rfl ?_
  refine j_iconst dL_law_215 (by decide) ?_
  refine j_iadd dL_law_216 (by omega) ?_
  refine j_sld (i := v + 2) ⟨by omega, by omega, by omega⟩ dL_law_217 ?_
  refine j_aload_n 0 dL_law_218 rfl rfl ?_
  refine j_iload_n 3 dL_law_219 rfl rfl ?_
  refine j_iconst dL_law_220 (by decide) ?_
  refine j_iadd dL_law_221 (by omega) ?_
  refine j_sld (i := v + 3) ⟨by omega, by omega, by omega⟩ dL_law_222 ?_
  refine j_callViG l_L_17 ⟨Nat.le_of_ble_eq_true rfl, Nat.le_of_ble_eq_true rfl⟩ ⟨rfl, rfl⟩ ⟨Nat.le_of_ble_eq_true rfl, Nat.le_of_ble_eq_true rfl⟩ dL_law_223 ob_74 (c_X9_mill N1 (X.2 (v + 1).toNat).toInt (X.2 (v + 2).toNat).toInt (X.2 (v + 3).toNat).toInt (af_rmills k I)) rfl rfl (Nat.le_of_ble_eq_true rfl) (fun r2 N2 h9 => ?_)
  have T := T_mill I h8 h9
  refine j_icmp_eq (tgt := 1565) dL_law_226 (by decide) (fun q => ?_) (fun q => ?_)
  · exact K _ T.2
  · exact absurd T.1 q
set_option maxHeartbeats 4000000 in
set_option maxRecDepth 20000 in
theorem law_hand {X : jX} {v : Int} {N : jM} (hv : 0 ≤ v ∧ v + 6 ≤ (X.1 : Int)) (hL : X.1 ≤ 3072) (I : ∃ f g Z, jIn f g Z N) (K : ∀ O, (∃ f g Z, jIn f g Z O) → jG D_L_law X FL shJ 111 13628 QL 1565 [(0, jR (-2)), (1, jR 0), (2, jR 74), (3, jI v)] [] O) : jG D_L_law X FL shJ 111 13628 QL 231 [(0, jR (-2)), (1, jR 0), (2, jR 74), (3, jI v)] [] N := by
  obtain ⟨f, g, Z, I⟩ := I
  refine j_aload_n 1 dL_law_231 rfl rfl ?_
  refine j_aload_n 0 dL_law_232 rfl rfl ?_
  refine j_iload_n 3 dL_law_233 rfl rfl ?_
  refine j_iconst dL_law_234 (by decide) ?_
  refine j_iadd dL_law_235 (by omega) ?_
  refine j_sld (i := v + 1) ⟨by omega, by omega, by omega⟩ dL_law_236 ?_
  refine j_aload_n 0 dL_law_237 rfl rfl ?_
  refine j_iload_n 3 dL_law_238 rfl rfl ?_
  refine j_iconst dL_law_239 (by decide) ?_
  refine j_iadd dL_law_240 (by omega) ?_
  refine j_sld (i := v + 2) ⟨by omega, by omega, by omega⟩ dL_law_241 ?_
  refine j_callViG l_L_18 ⟨Nat.le_of_ble_eq_true rfl, Nat.le_of_ble_eq_true rfl⟩ ⟨rfl, rfl⟩ ⟨Nat.le_of_ble_eq_true rfl, Nat.le_of_ble_eq_true rfl⟩ dL_law_242 ob_0 (c_X8_hand N (X.2 (v + 1).toNat).toInt (X.2 (v + 2).toNat).toInt (af_chands I)) rfl rfl (Nat.le_of_ble_eq_true rfl) (fun r1 N1 h8 => ?_)
  have k : rSm N N1 := kc_hand h8
  refine j_aload_n 2 dL_law_245 rfl rfl ?_
  refine j_aload_n 0 dL_law_246 rfl rfl ?_
  refine j_iload_n 3 dL_law_247 rfl rfl ?_
  refine j_iconst dL_law_248 (by decide) ?_
  refine j_iadd dL_law_249 (by omega) ?_
  refine j_sld (i := v + 1) ⟨by omega, by omega, by omega⟩ dL_law_250 ?_
  refine j_aload_n 0 dL_law_251 rfl rfl ?_
  refine j_iload_n 3 dL_law_252 rfl rfl ?_
  refine j_iconst dL_law_253 (by decide) ?_
  refine j_iadd dL_law_254 (by omega) ?_
  refine j_sld (i := v + 2) ⟨by omega, by omega, by omega⟩ dL_law_255 ?_
  refine j_callViG l_L_22 ⟨Nat.le_of_ble_eq_true rfl, Nat.le_of_ble_eq_true rfl⟩ ⟨rfl, rfl⟩ ⟨Nat.le_of_ble_eq_true rfl, Nat.le_of_ble_eq_true rfl⟩ dL_law_256 ob_74 (c_X9_hand N1 (X.2 (v + 1).toNat).toInt (X.2 (v + 2).toNat).toInt (af_rhands k I)) rfl rfl (Nat.le_of_ble_eq_true rfl) (fun r2 N2 h9 => ?_)
  have T := T_hand I h8 h9
  refine j_icmp_eq (tgt := 1565) dL_law_259 (by decide) (fun q => ?_) (fun q => ?_)
  · exact K _ T.2
  · exact absurd T.1 q
set_option maxHeartbeats 4000000 in
set_option maxRecDepth 20000 in
theorem law_custom {X : jX} {v : Int} {N : jM} (hv : 0 ≤ v ∧ v + 6 ≤ (X.1 : Int)) (hL : X.1 ≤ 3072) (I : ∃ f g Z, jIn f g Z N) (K : ∀ O, (∃ f g Z, jIn f g Z O) → jG D_L_law X FL shJ 111 13628 QL 1565 [(0, jR (-2)), (1, jR 0), (2, jR 74), (3, jI v)] [] O) : jG D_L_law X FL shJ 111 13628 QL 264 [(0, jR (-2)), (1, jR 0), (2, jR 74), (3, jI v)] [] N := by
  obtain ⟨f, g, Z, I⟩ := I
  refine j_aload_n 1 dL_law_264 rfl rfl ?_
  refine j_aload_n 0 dL_law_265 rfl rfl ?_
  refine j_iload_n 3 dL_law_266 rfl rfl ?_
  refine j_iconst dL_law_267 (by decide) ?_
  refine j_iadd dL_law_268 (by omega) ?_
  refine j_sld (i := v + 1) ⟨by omega, by omega, by omega⟩ dL_law_269 ?_
  refine j_aload_n 0 dL_law_270 rfl rfl ?_
  refine j_iload_n 3 dL_law_271 rfl rfl ?_
  refine j_iconst dL_law_272 (by decide) ?_
  refine j_iadd dL_law_273 (by omega) ?_
  refine j_sld (i := v + 2) ⟨by omega, by omega, by omega⟩ dL_law_274 ?_
  refine j_callViG l_L_23 ⟨Nat.le_of_ble_eq_true rfl, Nat.le_of_ble_eq_true rfl⟩ ⟨rfl, rfl⟩ ⟨Nat.le_of_ble_eq_true rfl, Nat.le_of_ble_eq_true rfl⟩ dL_law_275 ob_0 (c_X8_custom N (X.2 (v + 1).toNat).toInt (X.2 (v + 2).toNat).toInt (af_chands I) (af_cgrade I) (af_cpapers I)) rfl rfl (Nat.le_of_ble_eq_true rfl) (fun r1 N1 h8 => ?_)
  have k : rSm N N1 := kc_custom h8
  refine j_aload_n 2 dL_law_278 rfl rfl ?_
  refine j_aload_n 0 dL_law_279 rfl rfl ?_
  refine j_iload_n 3 dL_law_280 rfl rfl ?_
  refine j_iconst dL_law_281 (by decide) ?_
  refine j_iadd dL_law_282 (by omega) ?_
  refine j_sld (i := v + 1) ⟨by omega, by omega, by omega⟩ dL_law_283 ?_
  refine j_aload_n 0 dL_law_284 rfl rfl ?_
  refine j_iload_n 3 dL_law_285 rfl rfl ?_
  refine j_iconst dL_law_286 (by decide) ?_
  refine j_iadd dL_law_287 (by omega) ?_
  refine j_sld (i := v + 2) ⟨by omega, by omega, by omega⟩ dL_law_288 ?_
  refine j_callViG l_L_26 ⟨Nat.le_of_ble_eq_true rfl, Nat.le_of_ble_eq_true rfl⟩ ⟨rfl, rfl⟩ ⟨Nat.le_of_ble_eq_true rfl, Nat.le_of_ble_eq_true rfl⟩ dL_law_289 ob_74 (c_X9_custom N1 (X.2 (v + 1).toNat).toInt (X.2 (v + 2).toNat).toInt (af_rhands k I) (af_rgrade k I) (af_rpapers k I)) rfl rfl (Nat.le_of_ble_eq_true rfl) (fun r2 N2 h9 => ?_)
  have T := T_custom I h8 h9
  refine j_icmp_eq (tgt := 1565) dL_law_292 (by decide) (fun q => ?_) (fun q => ?_)
  · exact K _ T.2
  · exact absurd T.1 q
set_option maxHeartbeats 4000000 in
set_option maxRecDepth 20000 in
theorem law_paper {X : jX} {v : Int} {N : jM} (hv : 0 ≤ v ∧ v + 6 ≤ (X.1 : Int)) (hL : X.1 ≤ 3072) (I : ∃ f g Z, jIn f g Z N) (K : ∀ O, (∃ f g Z, jIn f g Z O) → jG D_L_law X FL shJ 111 13628 QL 1565 [(0, jR (-2)), (1, jR 0), (2, jR 74), (3, jI v)] [] O) : jG D_L_law X FL shJ 111 13628 QL 297 [(0, jR (-2)), (1, jR 0), (2, jR 74), (3, jI v)] [] N := by
  obtain ⟨f, g, Z, I⟩ := I
  refine j_aload_n 1 dL_law_297 rfl rfl ?_
  refine j_aload_n 0 dL_law_298 rfl rfl ?_
  refine j_iload_n 3 dL_law_299 rfl rfl ?_
  refine j_iconst dL_law_300 (by decide) ?_
  refine j_iadd dL_law_301 (by omega) ?_
  refine j_sld (i := v + 1) ⟨by omega, by omega, by omega⟩ dL_law_302 ?_
  refine j_aload_n 0 dL_law_303 rfl rfl ?_
  refine j_iload_n 3 dL_law_304 rfl rfl ?_
  refine j_iconst dL_law_305 (by decide) ?_
  refine j_iadd dL_law_306 (by omega) ?_
  refine j_sld (i := v + 2) ⟨by omega, by omega, by omega⟩ dL_law_307 ?_
  refine j_aload_n 0 dL_law_308 rfl rfl ?_
  refine j_iload_n 3 dL_law_309 rfl rfl ?_
  refine j_iconst dL_law_310 (by decide) ?_
  refine j_iadd dL_law_311 (by omega) ?_
  refine j_sld (i := v + 3) ⟨by omega, by omega, by omega⟩ dL_law_312 ?_
  refine j_aload_n 0 dL_law_313 rfl rfl ?_
  refine j_iload_n 3 dL_law_314 rfl rfl ?_
  refine j_iconst dL_law_315 (by decide) ?_
  refine j_iadd dL_law_316 (by omega) ?_
  refine j_sld (i := v + 4) ⟨by omega, by omega, by omega⟩ dL_law_317 ?_
  refine j_callViG l_L_27 ⟨Nat.le_of_ble_eq_true rfl, Nat.le_of_ble_eq_true rfl⟩ ⟨rfl, rfl⟩ ⟨Nat.le_of_ble_eq_true rfl, Nat.le_of_ble_eq_true rfl⟩ dL_law_318 ob_0 (c_X8_paper N (X.2 (v + 1).toNat).toInt (X.2 (v + 2).toNat).toInt (X.2 (v + 3).toNat).toInt (X.2 (v + 4).toNat).toInt (af_chands I) (af_cpapers I) (af_cfrom I) (af_cto I) (af_ccon I)) rfl rfl (Nat.le_of_ble_eq_true rfl) (fun r1 N1 h8 => ?_)
  have k : rSm N N1 := kc_paper h8
  refine j_aload_n 2 dL_law_321 rfl rfl ?_
  refine j_aload_n 0 dL_law_322 rfl rfl ?_
  refine j_iload_n 3 dL_law_323 rfl rfl ?_
  refine j_iconst dL_law_324 (by decide) ?_
  refine j_iadd dL_law_325 (by omega) ?_
  refine j_sld (i := v + 1) ⟨by omega, by omega, by omega⟩ dL_law_326 ?_
  refine j_aload_n 0 dL_law_327 rfl rfl ?_
  refine j_iload_n 3 dL_law_328 rfl rfl ?_
  refine j_iconst dL_law_329 (by decide) ?_
  refine j_iadd dL_law_330 (by omega) ?_
  refine j_sld (i := v + 2) ⟨by omega, by omega, by omega⟩ dL_law_331 ?_
  refine j_aload_n 0 dL_law_332 rfl rfl ?_
  refine j_iload_n 3 dL_law_333 rfl rfl ?_
  refine j_iconst dL_law_334 (by decide) ?_
  refine j_iadd dL_law_335 (by omega) ?_
  refine j_sld (i := v + 3) ⟨by omega, by omega, by omega⟩ dL_law_336 ?_
  refine j_aload_n 0 dL_law_337 rfl rfl ?_
  refine j_iload_n 3 dL_law_338 rfl rfl ?_
  refine j_iconst dL_law_339 (by decide) ?_
  refine j_iadd dL_law_340 (by omega) ?_
  refine j_sld (i := v + 4) ⟨by omega, by omega, by omega⟩ dL_law_341 ?_
  refine j_callViG l_L_31 ⟨Nat.le_of_ble_eq_true rfl, Nat.le_of_ble_eq_true rfl⟩ ⟨rfl, rfl⟩ ⟨Nat.le_of_ble_eq_true rfl, Nat.le_of_ble_eq_true rfl⟩ dL_law_342 ob_74 (c_X9_paper N1 (X.2 (v + 1).toNat).toInt (X.2 (v + 2).toNat).toInt (X.2 (v + 3).toNat).toInt (X.2 (v + 4).toNat).toInt (af_rpapers k I) (af_rhands k I)) rfl rfl (Nat.le_of_ble_eq_true rfl) (fun r2 N2 h9 => ?_)
  have T := T_paper I h8 h9
  refine j_icmp_eq (tgt := 1565) dL_law_345 (by decide) (fun q => ?_) (fun q => ?_)
  · exact K _ T.2
  · exact absurd T.1 q
set_option maxHeartbeats 4000000 in
set_option maxRecDepth 20000 in
theorem law_born {X : jX} {v : Int} {N : jM} (hv : 0 ≤ v ∧ v + 6 ≤ (X.1 : Int)) (hL : X.1 ≤ 3072) (I : ∃ f g Z, jIn f g Z N) (K : ∀ O, (∃ f g Z, jIn f g Z O) → jG D_L_law X FL shJ 111 13628 QL 1565 [(0, jR (-2)), (1, jR 0), (2, jR 74), (3, jI v)] [] O) : jG D_L_law X FL shJ 111 13628 QL 350 [(0, jR (-2)), (1, jR 0), (2, jR 74), (3, jI v)] [] N := by
  obtain ⟨f, g, Z, I⟩ := I
  refine j_aload_n 1 dL_law_350 rfl rfl ?_
  refine j_aload_n 0 dL_law_351 rfl rfl ?_
  refine j_iload_n 3 dL_law_352 rfl rfl ?_
  refine j_iconst dL_law_353 (by decide) ?_
  refine j_iadd dL_law_354 (by omega) ?_
  refine j_sld (i := v + 1) ⟨by omega, by omega, by omega⟩ dL_law_355 ?_
  refine j_aload_n 0 dL_law_356 rfl rfl ?_
  refine j_iload_n 3 dL_law_357 rfl rfl ?_
  refine j_iconst dL_law_358 (by decide) ?_
  refine j_iadd dL_law_359 (by omega) ?_
  refine j_sld (i := v + 2) ⟨by omega, by omega, by omega⟩ dL_law_360 ?_
  refine j_callViG l_L_32 ⟨Nat.le_of_ble_eq_true rfl, Nat.le_of_ble_eq_true rfl⟩ ⟨rfl, rfl⟩ ⟨Nat.le_of_ble_eq_true rfl, Nat.le_of_ble_eq_true rfl⟩ dL_law_361 ob_0 (c_X8_born N (X.2 (v + 1).toNat).toInt (X.2 (v + 2).toNat).toInt (af_chands I) (af_ccon I)) rfl rfl (Nat.le_of_ble_eq_true rfl) (fun r1 N1 h8 => ?_)
  have k : rSm N N1 := sC_r (af_f I).1 (sc_born (af_f I).1 h8)
  refine j_aload_n 2 dL_law_364 rfl rfl ?_
  refine j_aload_n 0 dL_law_365 rfl rfl ?_
  refine j_iload_n 3 dL_law_366 rfl rfl ?_
  refine j_iconst dL_law_367 (by decide) ?_
  refine j_iadd dL_law_368 (by omega) ?_
  refine j_sld (i := v + 1) ⟨by omega, by omega, by omega⟩ dL_law_369 ?_
  refine j_aload_n 0 dL_law_370 rfl rfl ?_
  refine j_iload_n 3 dL_law_371 rfl rfl ?_
  refine j_iconst dL_law_372 (by decide) ?_
  refine j_iadd dL_law_373 (by omega) ?_
  refine j_sld (i := v + 2) ⟨by omega, by omega, by omega⟩ dL_law_374 ?_
  refine j_callViG l_L_35 ⟨Nat.le_of_ble_eq_true rfl, Nat.le_of_ble_eq_true rfl⟩ ⟨rfl, rfl⟩ ⟨Nat.le_of_ble_eq_true rfl, Nat.le_of_ble_eq_true rfl⟩ dL_law_375 ob_74 (c_X9_born N1 (X.2 (v + 1).toNat).toInt (X.2 (v + 2).toNat).toInt (af_rhands k I) (af_rpapers k I) (af_rpaper k I)) rfl rfl (Nat.le_of_ble_eq_true rfl) (fun r2 N2 h9 => ?_)
  have T := T_born I h8 h9
  refine j_icmp_eq (tgt := 1565) dL_law_378 (by decide) (fun q => ?_) (fun q => ?_)
  · exact K _ T.2
  · exact absurd T.1 q
set_option maxHeartbeats 4000000 in
set_option maxRecDepth 20000 in
theorem law_age {X : jX} {v : Int} {N : jM} (hv : 0 ≤ v ∧ v + 6 ≤ (X.1 : Int)) (hL : X.1 ≤ 3072) (I : ∃ f g Z, jIn f g Z N) (K : ∀ O, (∃ f g Z, jIn f g Z O) → jG D_L_law X FL shJ 111 13628 QL 1565 [(0, jR (-2)), (1, jR 0), (2, jR 74), (3, jI v)] [] O) : jG D_L_law X FL shJ 111 13628 QL 383 [(0, jR (-2)), (1, jR 0), (2, jR 74), (3, jI v)] [] N := by
  obtain ⟨f, g, Z, I⟩ := I
  refine j_aload_n 1 dL_law_383 rfl rfl ?_
  refine j_aload_n 0 dL_law_384 rfl rfl ?_
  refine j_iload_n 3 dL_law_385 rfl rfl ?_
  refine j_iconst dL_law_386 (by decide) ?_
  refine j_iadd dL_law_387 (by omega) ?_
  refine j_sld (i := v + 1) ⟨by omega, by omega, by omega⟩ dL_law_388 ?_
  refine j_aload_n 0 dL_law_389 rfl rfl ?_
  refine j_iload_n 3 dL_law_390 rfl rfl ?_
  refine j_iconst dL_law_391 (by decide) ?_
  refine j_iadd dL_law_392 (by omega) ?_
  refine j_sld (i := v + 2) ⟨by omega, by omega, by omega⟩ dL_law_393 ?_
  refine j_aload_n 0 dL_law_394 rfl rfl ?_
  refine j_iload_n 3 dL_law_395 rfl rfl ?_
  refine j_iconst dL_law_396 (by decide) ?_
  refine j_iadd dL_law_397 (by omega) ?_
  refine j_sld (i := v + 3) ⟨by omega, by omega, by omega⟩ dL_law_398 ?_
  refine j_callViG l_L_36 ⟨Nat.le_of_ble_eq_true rfl, Nat.le_of_ble_eq_true rfl⟩ ⟨rfl, rfl⟩ ⟨Nat.le_of_ble_eq_true rfl, Nat.le_of_ble_eq_true rfl⟩ dL_law_399 ob_0 (c_X8_age N (X.2 (v + 1).toNat).toInt (X.2 (v + 2).toNat).toInt (X.2 (v + 3).toNat).toInt (af_chands I) (af_cfrom I) (af_cto I)) rfl rfl (Nat.le_of_ble_eq_true rfl) (fun r1 N1 h8 => ?_)
  have k : rSm N N1 := sC_r (af_f I).1 (sc_age (af_f I).1 h8)
  refine j_aload_n 2 dL_law_402 rfl rfl ?_
  refine j_aload_n 0 dL_law_403 rfl rfl ?_
  refine j_iload_n 3 dL_law_404 rfl rfl ?_
  refine j_iconst dL_law_405 (by decide) ?_
  refine j_iadd dL_law_406 (by omega) ?_
  refine j_sld (i := v + 1) ⟨by omega, by omega, by omega⟩ dL_law_407 ?_
  refine j_aload_n 0 dL_law_408 rfl rfl ?_
  refine j_iload_n 3 dL_law_409 rfl rfl ?_
  refine j_iconst dL_law_410 (by decide) ?_
  refine j_iadd dL_law_411 (by omega) ?_
  refine j_sld (i := v + 2) ⟨by omega, by omega, by omega⟩ dL_law_412 ?_
  refine j_aload_n 0 dL_law_413 rfl rfl ?_
  refine j_iload_n 3 dL_law_414 rfl rfl ?_
  refine j_iconst dL_law_415 (by decide) ?_
  refine j_iadd dL_law_416 (by omega) ?_
  refine j_sld (i := v + 3) ⟨by omega, by omega, by omega⟩ dL_law_417 ?_
  refine j_callViG l_L_39 ⟨Nat.le_of_ble_eq_true rfl, Nat.le_of_ble_eq_true rfl⟩ ⟨rfl, rfl⟩ ⟨Nat.le_of_ble_eq_true rfl, Nat.le_of_ble_eq_true rfl⟩ dL_law_418 ob_74 (c_X9_age N1 (X.2 (v + 1).toNat).toInt (X.2 (v + 2).toNat).toInt (X.2 (v + 3).toNat).toInt (af_rhands k I) (af_rpapers k I) (af_rpaper k I)) rfl rfl (Nat.le_of_ble_eq_true rfl) (fun r2 N2 h9 => ?_)
  have T := T_age I h8 h9
  refine j_icmp_eq (tgt := 1565) dL_law_421 (by decide) (fun q => ?_) (fun q => ?_)
  · exact K _ T.2
  · exact absurd T.1 q
set_option maxHeartbeats 4000000 in
set_option maxRecDepth 20000 in
theorem law_type {X : jX} {v : Int} {N : jM} (hv : 0 ≤ v ∧ v + 6 ≤ (X.1 : Int)) (hL : X.1 ≤ 3072) (I : ∃ f g Z, jIn f g Z N) (K : ∀ O, (∃ f g Z, jIn f g Z O) → jG D_L_law X FL shJ 111 13628 QL 1565 [(0, jR (-2)), (1, jR 0), (2, jR 74), (3, jI v)] [] O) : jG D_L_law X FL shJ 111 13628 QL 426 [(0, jR (-2)), (1, jR 0), (2, jR 74), (3, jI v)] [] N := by
  obtain ⟨f, g, Z, I⟩ := I
  refine j_aload_n 1 dL_law_426 rfl rfl ?_
  refine j_aload_n 0 dL_law_427 rfl rfl ?_
  refine j_iload_n 3 dL_law_428 rfl rfl ?_
  refine j_iconst dL_law_429 (by decide) ?_
  refine j_iadd dL_law_430 (by omega) ?_
  refine j_sld (i := v + 1) ⟨by omega, by omega, by omega⟩ dL_law_431 ?_
  refine j_i2l dL_law_432 ?_
  refine j_bipush dL_law_433 (by decide) ?_
  refine j_lshl dL_law_435 ?_
  refine j_aload_n 0 dL_law_436 rfl rfl ?_
  refine j_iload_n 3 dL_law_437 rfl rfl ?_
  refine j_iconst dL_law_438 (by decide) ?_
  refine j_iadd dL_law_439 (by omega) ?_
  refine j_sld (i := v + 2) ⟨by omega, by omega, by omega⟩ dL_law_440 ?_
  refine j_i2l dL_law_441 ?_
  refine j_ldc2_w (n := 4294967295) dL_law_442 c_L_40 ?_
  refine j_land dL_law_445 ?_
  refine j_lor dL_law_446 ?_
  refine j_aload_n 0 dL_law_447 rfl rfl ?_
  refine j_iload_n 3 dL_law_448 rfl rfl ?_
  refine j_iconst dL_law_449 (by decide) ?_
  refine j_iadd dL_law_450 (by omega) ?_
  refine j_sld (i := v + 3) ⟨by omega, by omega, by omega⟩ dL_law_451 ?_
  refine j_callViG l_L_42 ⟨Nat.le_of_ble_eq_true rfl, Nat.le_of_ble_eq_true rfl⟩ ⟨rfl, rfl⟩ ⟨Nat.le_of_ble_eq_true rfl, Nat.le_of_ble_eq_true rfl⟩ dL_law_452 ob_0 (c_X8_type N (jlor (jlshl (X.2 (v + 1).toNat).toInt 32) (jland (X.2 (v + 2).toNat).toInt 4294967295)) (X.2 (v + 3).toNat).toInt (af_ctyped I) (af_ctext I)) rfl rfl (Nat.le_of_ble_eq_true rfl) (fun r1 N1 h8 => ?_)
  have k : rSm N N1 := kc_type h8
  refine j_aload_n 2 dL_law_455 rfl rfl ?_
  refine j_aload_n 0 dL_law_456 rfl rfl ?_
  refine j_iload_n 3 dL_law_457 rfl rfl ?_
  refine j_iconst dL_law_458 (by decide) ?_
  refine j_iadd dL_law_459 (by omega) ?_
  refine j_sld (i := v + 1) ⟨by omega, by omega, by omega⟩ dL_law_460 ?_
  refine j_i2l dL_law_461 ?_
  refine j_bipush dL_law_462 (by decide) ?_
  refine j_lshl dL_law_464 ?_
  refine j_aload_n 0 dL_law_465 rfl rfl ?_
  refine j_iload_n 3 dL_law_466 rfl rfl ?_
  refine j_iconst dL_law_467 (by decide) ?_
  refine j_iadd dL_law_468 (by omega) ?_
  refine j_sld (i := v + 2) ⟨by omega, by omega, by omega⟩ dL_law_469 ?_
  refine j_i2l dL_law_470 ?_
  refine j_ldc2_w (n := 4294967295) dL_law_471 c_L_40 ?_
  refine j_land dL_law_474 ?_
  refine j_lor dL_law_475 ?_
  refine j_aload_n 0 dL_law_476 rfl rfl ?_
  refine j_iload_n 3 dL_law_477 rfl rfl ?_
  refine j_iconst dL_law_478 (by decide) ?_
  refine j_iadd dL_law_479 (by omega) ?_
  refine j_sld (i := v + 3) ⟨by omega, by omega, by omega⟩ dL_law_480 ?_
  refine j_callViG l_L_46 ⟨Nat.le_of_ble_eq_true rfl, Nat.le_of_ble_eq_true rfl⟩ ⟨rfl, rfl⟩ ⟨Nat.le_of_ble_eq_true rfl, Nat.le_of_ble_eq_true rfl⟩ dL_law_481 ob_74 (c_X9_type N1 (jlor (jlshl (X.2 (v + 1).toNat).toInt 32) (jland (X.2 (v + 2).toNat).toInt 4294967295)) (X.2 (v + 3).toNat).toInt (af_rtyped k I) (af_rtext k I)) rfl rfl (Nat.le_of_ble_eq_true rfl) (fun r2 N2 h9 => ?_)
  have T := T_type I h8 h9
  refine j_icmp_eq (tgt := 1565) dL_law_484 (by decide) (fun q => ?_) (fun q => ?_)
  · exact K _ T.2
  · exact absurd T.1 q
set_option maxHeartbeats 4000000 in
set_option maxRecDepth 20000 in
theorem law_clear {X : jX} {v : Int} {N : jM} (hv : 0 ≤ v ∧ v + 6 ≤ (X.1 : Int)) (hL : X.1 ≤ 3072) (I : ∃ f g Z, jIn f g Z N) (K : ∀ O, (∃ f g Z, jIn f g Z O) → jG D_L_law X FL shJ 111 13628 QL 1565 [(0, jR (-2)), (1, jR 0), (2, jR 74), (3, jI v)] [] O) : jG D_L_law X FL shJ 111 13628 QL 489 [(0, jR (-2)), (1, jR 0), (2, jR 74), (3, jI v)] [] N := by
  obtain ⟨f, g, Z, I⟩ := I
  refine j_aload_n 1 dL_law_489 rfl rfl ?_
  refine j_callViG l_L_47 ⟨Nat.le_of_ble_eq_true rfl, Nat.le_of_ble_eq_true rfl⟩ ⟨rfl, rfl⟩ ⟨Nat.le_of_ble_eq_true rfl, Nat.le_of_ble_eq_true rfl⟩ dL_law_490 ob_0 (c_X8_clear N) rfl rfl (Nat.le_of_ble_eq_true rfl) (fun r1 N1 h8 => ?_)
  have k : rSm N N1 := kc_clear h8
  refine j_aload_n 2 dL_law_493 rfl rfl ?_
  refine j_callViG l_L_51 ⟨Nat.le_of_ble_eq_true rfl, Nat.le_of_ble_eq_true rfl⟩ ⟨rfl, rfl⟩ ⟨Nat.le_of_ble_eq_true rfl, Nat.le_of_ble_eq_true rfl⟩ dL_law_494 ob_74 (c_X9_clear N1) rfl rfl (Nat.le_of_ble_eq_true rfl) (fun r2 N2 h9 => ?_)
  have T := T_clear I h8 h9
  refine j_icmp_eq (tgt := 1565) dL_law_497 (by decide) (fun q => ?_) (fun q => ?_)
  · exact K _ T.2
  · exact absurd T.1 q
set_option maxHeartbeats 4000000 in
set_option maxRecDepth 20000 in
theorem law_act {X : jX} {v : Int} {N : jM} (hv : 0 ≤ v ∧ v + 6 ≤ (X.1 : Int)) (hL : X.1 ≤ 3072) (I : ∃ f g Z, jIn f g Z N) (K : ∀ O, (∃ f g Z, jIn f g Z O) → jG D_L_law X FL shJ 111 13628 QL 1565 [(0, jR (-2)), (1, jR 0), (2, jR 74), (3, jI v)] [] O) : jG D_L_law X FL shJ 111 13628 QL 502 [(0, jR (-2)), (1, jR 0), (2, jR 74), (3, jI v)] [] N := by
  obtain ⟨f, g, Z, I⟩ := I
  refine j_aload_n 1 dL_law_502 rfl rfl ?_
  refine j_callViG l_L_52 ⟨Nat.le_of_ble_eq_true rfl, Nat.le_of_ble_eq_true rfl⟩ ⟨rfl, rfl⟩ ⟨Nat.le_of_ble_eq_true rfl, Nat.le_of_ble_eq_true rfl⟩ dL_law_503 ob_0 (c_X8_act N (cTx N) f g (af_f I).1 (af_f I).2.1 (af_ctyped I) (af_ctext I) (af_7 I) (af_8 I) rfl) rfl rfl (Nat.le_of_ble_eq_true rfl) (fun r1 N1 h8 => ?_)
  have k : rSm N N1 := kc_act (af_f I).1 (af_f I).2.1 h8
  refine j_aload_n 2 dL_law_506 rfl rfl ?_
  refine j_callViG l_L_55 ⟨Nat.le_of_ble_eq_true rfl, Nat.le_of_ble_eq_true rfl⟩ ⟨rfl, rfl⟩ ⟨Nat.le_of_ble_eq_true rfl, Nat.le_of_ble_eq_true rfl⟩ dL_law_507 ob_74 (c_X9_act N1 (cTx N) (af_rtyped k I) (af_rtext k I) (af_rwords k I) (af_tx k I)) rfl rfl (Nat.le_of_ble_eq_true rfl) (fun r2 N2 h9 => ?_)
  have T := T_act (af_f I).1 (af_f I).2.1 I rfl h8 h9
  refine j_icmp_eq (tgt := 1565) dL_law_510 (by decide) (fun q => ?_) (fun q => ?_)
  · exact K _ T.2
  · exact absurd T.1 q
set_option maxHeartbeats 4000000 in
set_option maxRecDepth 20000 in
theorem law_binds {X : jX} {v : Int} {N : jM} (hv : 0 ≤ v ∧ v + 6 ≤ (X.1 : Int)) (hL : X.1 ≤ 3072) (I : ∃ f g Z, jIn f g Z N) (K : ∀ O, (∃ f g Z, jIn f g Z O) → jG D_L_law X FL shJ 111 13628 QL 1565 [(0, jR (-2)), (1, jR 0), (2, jR 74), (3, jI v)] [] O) : jG D_L_law X FL shJ 111 13628 QL 515 [(0, jR (-2)), (1, jR 0), (2, jR 74), (3, jI v)] [] N := by
  obtain ⟨f, g, Z, I⟩ := I
  refine j_aload_n 1 dL_law_515 rfl rfl ?_
  refine j_aload_n 0 dL_law_516 rfl rfl ?_
  refine j_iload_n 3 dL_law_517 rfl rfl ?_
  refine j_iconst dL_law_518 (by decide) ?_
  refine j_iadd dL_law_519 (by omega) ?_
  refine j_sld (i := v + 1) ⟨by omega, by omega, by omega⟩ dL_law_520 ?_
  refine j_aload_n 0 dL_law_521 rfl rfl ?_
  refine j_iload_n 3 dL_law_522 rfl rfl ?_
  refine j_iconst dL_law_523 (by decide) ?_
  refine j_iadd dL_law_524 (by omega) ?_
  refine j_sld (i := v + 2) ⟨by omega, by omega, by omega⟩ dL_law_525 ?_
  refine j_aload_n 0 dL_law_526 rfl rfl ?_
  refine j_iload_n 3 dL_law_527 rfl rfl ?_
  refine j_iconst dL_law_528 (by decide) ?_
  refine j_iadd dL_law_529 (by omega) ?_
  refine j_sld (i := v + 3) ⟨by omega, by omega, by omega⟩ dL_law_530 ?_
  refine j_aload_n 0 dL_law_531 rfl rfl ?_
  refine j_iload_n 3 dL_law_532 rfl rfl ?_
  refine j_iconst dL_law_533 (by decide) ?_
  refine j_iadd dL_law_534 (by omega) ?_
  refine j_sld (i := v + 4) ⟨by omega, by omega, by omega⟩ dL_law_535 ?_
  refine j_callViG l_L_56 ⟨Nat.le_of_ble_eq_true rfl, Nat.le_of_ble_eq_true rfl⟩ ⟨rfl, rfl⟩ ⟨Nat.le_of_ble_eq_true rfl, Nat.le_of_ble_eq_true rfl⟩ dL_law_536 ob_0 (c_X8_binds N f (af_f I).1 (X.2 (v + 1).toNat).toInt (X.2 (v + 2).toNat).toInt (X.2 (v + 3).toNat).toInt (X.2 (v + 4).toNat).toInt (af_chands I) (af_cmills I) (af_cfrom I) (af_cto I) (af_ckind I) (af_ctrade I) (af_cpapers I) (af_7 I) (af_cact I)) rfl rfl (Nat.le_of_ble_eq_true rfl) (fun r1 N1 h8 => ?_)
  have k : rSm N N1 := sC_r (af_f I).1 (sc_binds (af_f I).1 (af_f I).1 h8)
  refine j_aload_n 2 dL_law_539 rfl rfl ?_
  refine j_aload_n 0 dL_law_540 rfl rfl ?_
  refine j_iload_n 3 dL_law_541 rfl rfl ?_
  refine j_iconst dL_law_542 (by decide) ?_
  refine j_iadd dL_law_543 (by omega) ?_
  refine j_sld (i := v + 1) ⟨by omega, by omega, by omega⟩ dL_law_544 ?_
  refine j_aload_n 0 dL_law_545 rfl rfl ?_
  refine j_iload_n 3 dL_law_546 rfl rfl ?_
  refine j_iconst dL_law_547 (by decide) ?_
  refine j_iadd dL_law_548 (by omega) ?_
  refine j_sld (i := v + 2) ⟨by omega, by omega, by omega⟩ dL_law_549 ?_
  refine j_aload_n 0 dL_law_550 rfl rfl ?_
  refine j_iload_n 3 dL_law_551 rfl rfl ?_
  refine j_iconst dL_law_552 (by decide) ?_
  refine j_iadd dL_law_553 (by omega) ?_
  refine j_sld (i := v + 3) ⟨by omega, by omega, by omega⟩ dL_law_554 ?_
  refine j_aload_n 0 dL_law_555 rfl rfl ?_
  refine j_iload_n 3 dL_law_556 rfl rfl ?_
  refine j_iconst dL_law_557 (by decide) ?_
  refine j_iadd dL_law_558 (by omega) ?_
  refine j_sld (i := v + 4) ⟨by omega, by omega, by omega⟩ dL_law_559 ?_
  refine j_callViG l_L_59 ⟨Nat.le_of_ble_eq_true rfl, Nat.le_of_ble_eq_true rfl⟩ ⟨rfl, rfl⟩ ⟨Nat.le_of_ble_eq_true rfl, Nat.le_of_ble_eq_true rfl⟩ dL_law_560 ob_74 (c_X9_binds N1 (X.2 (v + 1).toNat).toInt (X.2 (v + 2).toNat).toInt (X.2 (v + 3).toNat).toInt (X.2 (v + 4).toNat).toInt (af_rrules k I) (af_rhands k I) (af_rmills k I) (af_rkind k I) (af_rtrade k I) (af_rpapers k I) (af_rpaper k I) (af_ract k I)) rfl rfl (Nat.le_of_ble_eq_true rfl) (fun r2 N2 h9 => ?_)
  have T := T_binds (af_f I).1 I h8 h9
  refine j_icmp_eq (tgt := 1565) dL_law_563 (by decide) (fun q => ?_) (fun q => ?_)
  · exact K _ T.2
  · exact absurd T.1 q
set_option maxHeartbeats 4000000 in
set_option maxRecDepth 20000 in
theorem law_duty {X : jX} {v : Int} {N : jM} (hv : 0 ≤ v ∧ v + 6 ≤ (X.1 : Int)) (hL : X.1 ≤ 3072) (I : ∃ f g Z, jIn f g Z N) (K : ∀ O, (∃ f g Z, jIn f g Z O) → jG D_L_law X FL shJ 111 13628 QL 1565 [(0, jR (-2)), (1, jR 0), (2, jR 74), (3, jI v)] [] O) : jG D_L_law X FL shJ 111 13628 QL 568 [(0, jR (-2)), (1, jR 0), (2, jR 74), (3, jI v)] [] N := by
  obtain ⟨f, g, Z, I⟩ := I
  refine j_aload_n 1 dL_law_568 rfl rfl ?_
  refine j_aload_n 0 dL_law_569 rfl rfl ?_
  refine j_iload_n 3 dL_law_570 rfl rfl ?_
  refine j_iconst dL_law_571 (by decide) ?_
  refine j_iadd dL_law_572 (by omega) ?_
  refine j_sld (i := v + 1) ⟨by omega, by omega, by omega⟩ dL_law_573 ?_
  refine j_aload_n 0 dL_law_574 rfl rfl ?_
  refine j_iload_n 3 dL_law_575 rfl rfl ?_
  refine j_iconst dL_law_576 (by decide) ?_
  refine j_iadd dL_law_577 (by omega) ?_
  refine j_sld (i := v + 2) ⟨by omega, by omega, by omega⟩ dL_law_578 ?_
  refine j_aload_n 0 dL_law_579 rfl rfl ?_
  refine j_iload_n 3 dL_law_580 rfl rfl ?_
  refine j_iconst dL_law_581 (by decide) ?_
  refine j_iadd dL_law_582 (by omega) ?_
  refine j_sld (i := v + 3) ⟨by omega, by omega, by omega⟩ dL_law_583 ?_
  refine j_aload_n 0 dL_law_584 rfl rfl ?_
  refine j_iload_n 3 dL_law_585 rfl rfl ?_
  refine j_iconst dL_law_586 (by decide) ?_
  refine j_iadd dL_law_587 (by omega) ?_
  refine j_sld (i := v + 4) ⟨by omega, by omega, by omega⟩ dL_law_588 ?_
  refine j_aload_n 0 dL_law_589 rfl rfl ?_
  refine j_iload_n 3 dL_law_590 rfl rfl ?_
  refine j_iconst dL_law_591 (by decide) ?_
  refine j_iadd dL_law_592 (by omega) ?_
  refine j_sld (i := v + 5) ⟨by omega, by omega, by omega⟩ dL_law_593 ?_
  refine j_callViG l_L_60 ⟨Nat.le_of_ble_eq_true rfl, Nat.le_of_ble_eq_true rfl⟩ ⟨rfl, rfl⟩ ⟨Nat.le_of_ble_eq_true rfl, Nat.le_of_ble_eq_true rfl⟩ dL_law_594 ob_0 (c_X8_duty N f (af_f I).1 (X.2 (v + 1).toNat).toInt (X.2 (v + 2).toNat).toInt (X.2 (v + 3).toNat).toInt (X.2 (v + 4).toNat).toInt (X.2 (v + 5).toNat).toInt (af_chands I) (af_cmills I) (af_cgrade I) (af_cpapers I) (af_cfrom I) (af_cto I) (af_ckind I) (af_ctrade I) (af_7 I) (af_cact I)) rfl rfl (Nat.le_of_ble_eq_true rfl) (fun r1 N1 h8 => ?_)
  have k : rSm N N1 := sC_r (af_f I).1 (sc_duty (af_f I).1 (af_f I).1 h8)
  refine j_aload_n 2 dL_law_597 rfl rfl ?_
  refine j_aload_n 0 dL_law_598 rfl rfl ?_
  refine j_iload_n 3 dL_law_599 rfl rfl ?_
  refine j_iconst dL_law_600 (by decide) ?_
  refine j_iadd dL_law_601 (by omega) ?_
  refine j_sld (i := v + 1) ⟨by omega, by omega, by omega⟩ dL_law_602 ?_
  refine j_aload_n 0 dL_law_603 rfl rfl ?_
  refine j_iload_n 3 dL_law_604 rfl rfl ?_
  refine j_iconst dL_law_605 (by decide) ?_
  refine j_iadd dL_law_606 (by omega) ?_
  refine j_sld (i := v + 2) ⟨by omega, by omega, by omega⟩ dL_law_607 ?_
  refine j_aload_n 0 dL_law_608 rfl rfl ?_
  refine j_iload_n 3 dL_law_609 rfl rfl ?_
  refine j_iconst dL_law_610 (by decide) ?_
  refine j_iadd dL_law_611 (by omega) ?_
  refine j_sld (i := v + 3) ⟨by omega, by omega, by omega⟩ dL_law_612 ?_
  refine j_aload_n 0 dL_law_613 rfl rfl ?_
  refine j_iload_n 3 dL_law_614 rfl rfl ?_
  refine j_iconst dL_law_615 (by decide) ?_
  refine j_iadd dL_law_616 (by omega) ?_
  refine j_sld (i := v + 4) ⟨by omega, by omega, by omega⟩ dL_law_617 ?_
  refine j_aload_n 0 dL_law_618 rfl rfl ?_
  refine j_iload_n 3 dL_law_619 rfl rfl ?_
  refine j_iconst dL_law_620 (by decide) ?_
  refine j_iadd dL_law_621 (by omega) ?_
  refine j_sld (i := v + 5) ⟨by omega, by omega, by omega⟩ dL_law_622 ?_
  refine j_callViG l_L_64 ⟨Nat.le_of_ble_eq_true rfl, Nat.le_of_ble_eq_true rfl⟩ ⟨rfl, rfl⟩ ⟨Nat.le_of_ble_eq_true rfl, Nat.le_of_ble_eq_true rfl⟩ dL_law_623 ob_74 (c_X9_duty N1 (X.2 (v + 1).toNat).toInt (X.2 (v + 2).toNat).toInt (X.2 (v + 3).toNat).toInt (X.2 (v + 4).toNat).toInt (X.2 (v + 5).toNat).toInt (af_rrules k I) (af_rhands k I) (af_rmills k I) (af_rkind k I) (af_rgrade k I) (af_rpapers k I) (af_rtrade k I) (af_rpaper k I) (af_ract k I)) rfl rfl (Nat.le_of_ble_eq_true rfl) (fun r2 N2 h9 => ?_)
  have T := T_duty (af_f I).1 I h8 h9
  refine j_icmp_eq (tgt := 1565) dL_law_626 (by decide) (fun q => ?_) (fun q => ?_)
  · exact K _ T.2
  · exact absurd T.1 q
set_option maxHeartbeats 4000000 in
set_option maxRecDepth 20000 in
theorem law_why {X : jX} {v : Int} {N : jM} (hv : 0 ≤ v ∧ v + 6 ≤ (X.1 : Int)) (hL : X.1 ≤ 3072) (I : ∃ f g Z, jIn f g Z N) (K : ∀ O, (∃ f g Z, jIn f g Z O) → jG D_L_law X FL shJ 111 13628 QL 1565 [(0, jR (-2)), (1, jR 0), (2, jR 74), (3, jI v)] [] O) : jG D_L_law X FL shJ 111 13628 QL 631 [(0, jR (-2)), (1, jR 0), (2, jR 74), (3, jI v)] [] N := by
  obtain ⟨f, g, Z, I⟩ := I
  refine j_aload_n 1 dL_law_631 rfl rfl ?_
  refine j_aload_n 0 dL_law_632 rfl rfl ?_
  refine j_iload_n 3 dL_law_633 rfl rfl ?_
  refine j_iconst dL_law_634 (by decide) ?_
  refine j_iadd dL_law_635 (by omega) ?_
  refine j_sld (i := v + 1) ⟨by omega, by omega, by omega⟩ dL_law_636 ?_
  refine j_aload_n 0 dL_law_637 rfl rfl ?_
  refine j_iload_n 3 dL_law_638 rfl rfl ?_
  refine j_iconst dL_law_639 (by decide) ?_
  refine j_iadd dL_law_640 (by omega) ?_
  refine j_sld (i := v + 2) ⟨by omega, by omega, by omega⟩ dL_law_641 ?_
  refine j_aload_n 0 dL_law_642 rfl rfl ?_
  refine j_iload_n 3 dL_law_643 rfl rfl ?_
  refine j_iconst dL_law_644 (by decide) ?_
  refine j_iadd dL_law_645 (by omega) ?_
  refine j_sld (i := v + 3) ⟨by omega, by omega, by omega⟩ dL_law_646 ?_
  refine j_aload_n 0 dL_law_647 rfl rfl ?_
  refine j_iload_n 3 dL_law_648 rfl rfl ?_
  refine j_iconst dL_law_649 (by decide) ?_
  refine j_iadd dL_law_650 (by omega) ?_
  refine j_sld (i := v + 4) ⟨by omega, by omega, by omega⟩ dL_law_651 ?_
  refine j_aload_n 0 dL_law_652 rfl rfl ?_
  refine j_iload_n 3 dL_law_653 rfl rfl ?_
  refine j_iconst dL_law_654 (by decide) ?_
  refine j_iadd dL_law_655 (by omega) ?_
  refine j_sld (i := v + 5) ⟨by omega, by omega, by omega⟩ dL_law_656 ?_
  refine j_callViG l_L_65 ⟨Nat.le_of_ble_eq_true rfl, Nat.le_of_ble_eq_true rfl⟩ ⟨rfl, rfl⟩ ⟨Nat.le_of_ble_eq_true rfl, Nat.le_of_ble_eq_true rfl⟩ dL_law_657 ob_0 (c_X8_why N f (af_f I).1 (X.2 (v + 1).toNat).toInt (X.2 (v + 2).toNat).toInt (X.2 (v + 3).toNat).toInt (X.2 (v + 4).toNat).toInt (X.2 (v + 5).toNat).toInt (af_chands I) (af_cmills I) (af_cgrade I) (af_cpapers I) (af_cfrom I) (af_cto I) (af_ckind I) (af_ctrade I) (af_7 I) (af_cact I)) rfl rfl (Nat.le_of_ble_eq_true rfl) (fun r1 N1 h8 => ?_)
  have k : rSm N N1 := sC_r (af_f I).1 (sc_why (af_f I).1 (af_f I).1 h8)
  refine j_aload_n 2 dL_law_660 rfl rfl ?_
  refine j_aload_n 0 dL_law_661 rfl rfl ?_
  refine j_iload_n 3 dL_law_662 rfl rfl ?_
  refine j_iconst dL_law_663 (by decide) ?_
  refine j_iadd dL_law_664 (by omega) ?_
  refine j_sld (i := v + 1) ⟨by omega, by omega, by omega⟩ dL_law_665 ?_
  refine j_aload_n 0 dL_law_666 rfl rfl ?_
  refine j_iload_n 3 dL_law_667 rfl rfl ?_
  refine j_iconst dL_law_668 (by decide) ?_
  refine j_iadd dL_law_669 (by omega) ?_
  refine j_sld (i := v + 2) ⟨by omega, by omega, by omega⟩ dL_law_670 ?_
  refine j_aload_n 0 dL_law_671 rfl rfl ?_
  refine j_iload_n 3 dL_law_672 rfl rfl ?_
  refine j_iconst dL_law_673 (by decide) ?_
  refine j_iadd dL_law_674 (by omega) ?_
  refine j_sld (i := v + 3) ⟨by omega, by omega, by omega⟩ dL_law_675 ?_
  refine j_aload_n 0 dL_law_676 rfl rfl ?_
  refine j_iload_n 3 dL_law_677 rfl rfl ?_
  refine j_iconst dL_law_678 (by decide) ?_
  refine j_iadd dL_law_679 (by omega) ?_
  refine j_sld (i := v + 4) ⟨by omega, by omega, by omega⟩ dL_law_680 ?_
  refine j_aload_n 0 dL_law_681 rfl rfl ?_
  refine j_iload_n 3 dL_law_682 rfl rfl ?_
  refine j_iconst dL_law_683 (by decide) ?_
  refine j_iadd dL_law_684 (by omega) ?_
  refine j_sld (i := v + 5) ⟨by omega, by omega, by omega⟩ dL_law_685 ?_
  refine j_callViG l_L_68 ⟨Nat.le_of_ble_eq_true rfl, Nat.le_of_ble_eq_true rfl⟩ ⟨rfl, rfl⟩ ⟨Nat.le_of_ble_eq_true rfl, Nat.le_of_ble_eq_true rfl⟩ dL_law_686 ob_74 (c_X9_why N1 (X.2 (v + 1).toNat).toInt (X.2 (v + 2).toNat).toInt (X.2 (v + 3).toNat).toInt (X.2 (v + 4).toNat).toInt (X.2 (v + 5).toNat).toInt (af_rrules k I) (af_rhands k I) (af_rmills k I) (af_rkind k I) (af_rgrade k I) (af_rpapers k I) (af_rtrade k I) (af_rpaper k I) (af_ract k I)) rfl rfl (Nat.le_of_ble_eq_true rfl) (fun r2 N2 h9 => ?_)
  have T := T_why (af_f I).1 I h8 h9
  refine j_icmp_eq (tgt := 1565) dL_law_689 (by decide) (fun q => ?_) (fun q => ?_)
  · exact K _ T.2
  · exact absurd T.1 q
set_option maxHeartbeats 4000000 in
set_option maxRecDepth 20000 in
theorem law_quarrel {X : jX} {v : Int} {N : jM} (hv : 0 ≤ v ∧ v + 6 ≤ (X.1 : Int)) (hL : X.1 ≤ 3072) (I : ∃ f g Z, jIn f g Z N) (K : ∀ O, (∃ f g Z, jIn f g Z O) → jG D_L_law X FL shJ 111 13628 QL 1565 [(0, jR (-2)), (1, jR 0), (2, jR 74), (3, jI v)] [] O) : jG D_L_law X FL shJ 111 13628 QL 694 [(0, jR (-2)), (1, jR 0), (2, jR 74), (3, jI v)] [] N := by
  obtain ⟨f, g, Z, I⟩ := I
  refine j_aload_n 1 dL_law_694 rfl rfl ?_
  refine j_aload_n 0 dL_law_695 rfl rfl ?_
  refine j_iload_n 3 dL_law_696 rfl rfl ?_
  refine j_iconst dL_law_697 (by decide) ?_
  refine j_iadd dL_law_698 (by omega) ?_
  refine j_sld (i := v + 1) ⟨by omega, by omega, by omega⟩ dL_law_699 ?_
  refine j_aload_n 0 dL_law_700 rfl rfl ?_
  refine j_iload_n 3 dL_law_701 rfl rfl ?_
  refine j_iconst dL_law_702 (by decide) ?_
  refine j_iadd dL_law_703 (by omega) ?_
  refine j_sld (i := v + 2) ⟨by omega, by omega, by omega⟩ dL_law_704 ?_
  refine j_aload_n 0 dL_law_705 rfl rfl ?_
  refine j_iload_n 3 dL_law_706 rfl rfl ?_
  refine j_iconst dL_law_707 (by decide) ?_
  refine j_iadd dL_law_708 (by omega) ?_
  refine j_sld (i := v + 3) ⟨by omega, by omega, by omega⟩ dL_law_709 ?_
  refine j_callViG l_L_69 ⟨Nat.le_of_ble_eq_true rfl, Nat.le_of_ble_eq_true rfl⟩ ⟨rfl, rfl⟩ ⟨Nat.le_of_ble_eq_true rfl, Nat.le_of_ble_eq_true rfl⟩ dL_law_710 ob_0 (c_X8_quarrel N f (af_f I).1 (X.2 (v + 1).toNat).toInt (X.2 (v + 2).toNat).toInt (X.2 (v + 3).toNat).toInt (af_chands I) (af_cmills I) (af_cgrade I) (af_cpapers I) (af_cfrom I) (af_cto I) (af_ckind I) (af_ctrade I) (af_7 I) (af_cact I)) rfl rfl (Nat.le_of_ble_eq_true rfl) (fun r1 N1 h8 => ?_)
  have k : rSm N N1 := sC_r (af_f I).1 (sc_quarrel (af_f I).1 (af_f I).1 h8)
  refine j_aload_n 2 dL_law_713 rfl rfl ?_
  refine j_aload_n 0 dL_law_714 rfl rfl ?_
  refine j_iload_n 3 dL_law_715 rfl rfl ?_
  refine j_iconst dL_law_716 (by decide) ?_
  refine j_iadd dL_law_717 (by omega) ?_
  refine j_sld (i := v + 1) ⟨by omega, by omega, by omega⟩ dL_law_718 ?_
  refine j_aload_n 0 dL_law_719 rfl rfl ?_
  refine j_iload_n 3 dL_law_720 rfl rfl ?_
  refine j_iconst dL_law_721 (by decide) ?_
  refine j_iadd dL_law_722 (by omega) ?_
  refine j_sld (i := v + 2) ⟨by omega, by omega, by omega⟩ dL_law_723 ?_
  refine j_aload_n 0 dL_law_724 rfl rfl ?_
  refine j_iload_n 3 dL_law_725 rfl rfl ?_
  refine j_iconst dL_law_726 (by decide) ?_
  refine j_iadd dL_law_727 (by omega) ?_
  refine j_sld (i := v + 3) ⟨by omega, by omega, by omega⟩ dL_law_728 ?_
  refine j_callViG l_L_72 ⟨Nat.le_of_ble_eq_true rfl, Nat.le_of_ble_eq_true rfl⟩ ⟨rfl, rfl⟩ ⟨Nat.le_of_ble_eq_true rfl, Nat.le_of_ble_eq_true rfl⟩ dL_law_729 ob_74 (c_X9_quarrel N1 (X.2 (v + 1).toNat).toInt (X.2 (v + 2).toNat).toInt (X.2 (v + 3).toNat).toInt (af_rrules k I) (af_rhands k I) (af_rmills k I) (af_rkind k I) (af_rtrade k I) (af_rpapers k I) (af_rpaper k I) (af_ract k I)) rfl rfl (Nat.le_of_ble_eq_true rfl) (fun r2 N2 h9 => ?_)
  have T := T_quarrel (af_f I).1 I h8 h9
  refine j_icmp_eq (tgt := 1565) dL_law_732 (by decide) (fun q => ?_) (fun q => ?_)
  · exact K _ T.2
  · exact absurd T.1 q
set_option maxHeartbeats 4000000 in
set_option maxRecDepth 20000 in
theorem law_rule {X : jX} {v : Int} {N : jM} (hv : 0 ≤ v ∧ v + 6 ≤ (X.1 : Int)) (hL : X.1 ≤ 3072) (I : ∃ f g Z, jIn f g Z N) (K : ∀ O, (∃ f g Z, jIn f g Z O) → jG D_L_law X FL shJ 111 13628 QL 1565 [(0, jR (-2)), (1, jR 0), (2, jR 74), (3, jI v)] [] O) : jG D_L_law X FL shJ 111 13628 QL 737 [(0, jR (-2)), (1, jR 0), (2, jR 74), (3, jI v)] [] N := by
  obtain ⟨f, g, Z, I⟩ := I
  refine j_aload_n 1 dL_law_737 rfl rfl ?_
  refine j_aload_n 0 dL_law_738 rfl rfl ?_
  refine j_iload_n 3 dL_law_739 rfl rfl ?_
  refine j_iconst dL_law_740 (by decide) ?_
  refine j_iadd dL_law_741 (by omega) ?_
  refine j_sld (i := v + 1) ⟨by omega, by omega, by omega⟩ dL_law_742 ?_
  refine j_aload_n 0 dL_law_743 rfl rfl ?_
  refine j_iload_n 3 dL_law_744 rfl rfl ?_
  refine j_iconst dL_law_745 (by decide) ?_
  refine j_iadd dL_law_746 (by omega) ?_
  refine j_sld (i := v + 2) ⟨by omega, by omega, by omega⟩ dL_law_747 ?_
  refine j_callViG l_L_73 ⟨Nat.le_of_ble_eq_true rfl, Nat.le_of_ble_eq_true rfl⟩ ⟨rfl, rfl⟩ ⟨Nat.le_of_ble_eq_true rfl, Nat.le_of_ble_eq_true rfl⟩ dL_law_748 ob_0 (c_X8_rule N f (af_f I).1 (X.2 (v + 1).toNat).toInt (X.2 (v + 2).toNat).toInt (af_7 I) (af_cact I)) rfl rfl (Nat.le_of_ble_eq_true rfl) (fun r1 N1 h8 => ?_)
  have k : rSm N N1 := sC_r (af_f I).1 (sc_rule (af_f I).1 (af_f I).1 h8)
  refine j_aload_n 2 dL_law_751 rfl rfl ?_
  refine j_aload_n 0 dL_law_752 rfl rfl ?_
  refine j_iload_n 3 dL_law_753 rfl rfl ?_
  refine j_iconst dL_law_754 (by decide) ?_
  refine j_iadd dL_law_755 (by omega) ?_
  refine j_sld (i := v + 1) ⟨by omega, by omega, by omega⟩ dL_law_756 ?_
  refine j_aload_n 0 dL_law_757 rfl rfl ?_
  refine j_iload_n 3 dL_law_758 rfl rfl ?_
  refine j_iconst dL_law_759 (by decide) ?_
  refine j_iadd dL_law_760 (by omega) ?_
  refine j_sld (i := v + 2) ⟨by omega, by omega, by omega⟩ dL_law_761 ?_
  refine j_callViG l_L_76 ⟨Nat.le_of_ble_eq_true rfl, Nat.le_of_ble_eq_true rfl⟩ ⟨rfl, rfl⟩ ⟨Nat.le_of_ble_eq_true rfl, Nat.le_of_ble_eq_true rfl⟩ dL_law_762 ob_74 (c_X9_rule N1 (X.2 (v + 1).toNat).toInt (X.2 (v + 2).toNat).toInt (af_rrules k I)) rfl rfl (Nat.le_of_ble_eq_true rfl) (fun r2 N2 h9 => ?_)
  have T := T_rule (af_f I).1 I h8 h9
  refine j_icmp_eq (tgt := 1565) dL_law_765 (by decide) (fun q => ?_) (fun q => ?_)
  · exact K _ T.2
  · exact absurd T.1 q
set_option maxHeartbeats 4000000 in
set_option maxRecDepth 20000 in
theorem law_line {X : jX} {v : Int} {N : jM} (hv : 0 ≤ v ∧ v + 6 ≤ (X.1 : Int)) (hL : X.1 ≤ 3072) (I : ∃ f g Z, jIn f g Z N) (K : ∀ O, (∃ f g Z, jIn f g Z O) → jG D_L_law X FL shJ 111 13628 QL 1565 [(0, jR (-2)), (1, jR 0), (2, jR 74), (3, jI v)] [] O) : jG D_L_law X FL shJ 111 13628 QL 770 [(0, jR (-2)), (1, jR 0), (2, jR 74), (3, jI v)] [] N := by
  obtain ⟨f, g, Z, I⟩ := I
  refine j_aload_n 1 dL_law_770 rfl rfl ?_
  refine j_aload_n 0 dL_law_771 rfl rfl ?_
  refine j_iload_n 3 dL_law_772 rfl rfl ?_
  refine j_iconst dL_law_773 (by decide) ?_
  refine j_iadd dL_law_774 (by omega) ?_
  refine j_sld (i := v + 1) ⟨by omega, by omega, by omega⟩ dL_law_775 ?_
  refine j_aload_n 0 dL_law_776 rfl rfl ?_
  refine j_iload_n 3 dL_law_777 rfl rfl ?_
  refine j_iconst dL_law_778 (by decide) ?_
  refine j_iadd dL_law_779 (by omega) ?_
  refine j_sld (i := v + 2) ⟨by omega, by omega, by omega⟩ dL_law_780 ?_
  refine j_aload_n 0 dL_law_781 rfl rfl ?_
  refine j_iload_n 3 dL_law_782 rfl rfl ?_
  refine j_iconst dL_law_783 (by decide) ?_
  refine j_iadd dL_law_784 (by omega) ?_
  refine j_sld (i := v + 3) ⟨by omega, by omega, by omega⟩ dL_law_785 ?_
  refine j_aload_n 0 dL_law_786 rfl rfl ?_
  refine j_iload_n 3 dL_law_787 rfl rfl ?_
  refine j_iconst dL_law_788 (by decide) ?_
  refine j_iadd dL_law_789 (by omega) ?_
  refine j_sld (i := v + 4) ⟨by omega, by omega, by omega⟩ dL_law_790 ?_
  refine j_aload_n 0 dL_law_791 rfl rfl ?_
  refine j_iload_n 3 dL_law_792 rfl rfl ?_
  refine j_iconst dL_law_793 (by decide) ?_
  refine j_iadd dL_law_794 (by omega) ?_
  refine j_sld (i := v + 5) ⟨by omega, by omega, by omega⟩ dL_law_795 ?_
  refine j_callViG l_L_77 ⟨Nat.le_of_ble_eq_true rfl, Nat.le_of_ble_eq_true rfl⟩ ⟨rfl, rfl⟩ ⟨Nat.le_of_ble_eq_true rfl, Nat.le_of_ble_eq_true rfl⟩ dL_law_796 ob_0 (c_X8_line N (X.2 (v + 1).toNat).toInt (X.2 (v + 2).toNat).toInt (X.2 (v + 3).toNat).toInt (X.2 (v + 4).toNat).toInt (X.2 (v + 5).toNat).toInt (af_clines I)) rfl rfl (Nat.le_of_ble_eq_true rfl) (fun r1 N1 h8 => ?_)
  have k : rSm N N1 := kc_line h8
  refine j_aload_n 2 dL_law_799 rfl rfl ?_
  refine j_aload_n 0 dL_law_800 rfl rfl ?_
  refine j_iload_n 3 dL_law_801 rfl rfl ?_
  refine j_iconst dL_law_802 (by decide) ?_
  refine j_iadd dL_law_803 (by omega) ?_
  refine j_sld (i := v + 1) ⟨by omega, by omega, by omega⟩ dL_law_804 ?_
  refine j_aload_n 0 dL_law_805 rfl rfl ?_
  refine j_iload_n 3 dL_law_806 rfl rfl ?_
  refine j_iconst dL_law_807 (by decide) ?_
  refine j_iadd dL_law_808 (by omega) ?_
  refine j_sld (i := v + 2) ⟨by omega, by omega, by omega⟩ dL_law_809 ?_
  refine j_aload_n 0 dL_law_810 rfl rfl ?_
  refine j_iload_n 3 dL_law_811 rfl rfl ?_
  refine j_iconst dL_law_812 (by decide) ?_
  refine j_iadd dL_law_813 (by omega) ?_
  refine j_sld (i := v + 3) ⟨by omega, by omega, by omega⟩ dL_law_814 ?_
  refine j_aload_n 0 dL_law_815 rfl rfl ?_
  refine j_iload_n 3 dL_law_816 rfl rfl ?_
  refine j_iconst dL_law_817 (by decide) ?_
  refine j_iadd dL_law_818 (by omega) ?_
  refine j_sld (i := v + 4) ⟨by omega, by omega, by omega⟩ dL_law_819 ?_
  refine j_aload_n 0 dL_law_820 rfl rfl ?_
  refine j_iload_n 3 dL_law_821 rfl rfl ?_
  refine j_iconst dL_law_822 (by decide) ?_
  refine j_iadd dL_law_823 (by omega) ?_
  refine j_sld (i := v + 5) ⟨by omega, by omega, by omega⟩ dL_law_824 ?_
  refine j_callViG l_L_80 ⟨Nat.le_of_ble_eq_true rfl, Nat.le_of_ble_eq_true rfl⟩ ⟨rfl, rfl⟩ ⟨Nat.le_of_ble_eq_true rfl, Nat.le_of_ble_eq_true rfl⟩ dL_law_825 ob_74 (c_X9_line N1 (X.2 (v + 1).toNat).toInt (X.2 (v + 2).toNat).toInt (X.2 (v + 3).toNat).toInt (X.2 (v + 4).toNat).toInt (X.2 (v + 5).toNat).toInt (af_rmills k I) (af_rhands k I) (af_rlines k I)) rfl rfl (Nat.le_of_ble_eq_true rfl) (fun r2 N2 h9 => ?_)
  have T := T_line I h8 h9
  refine j_icmp_eq (tgt := 1565) dL_law_828 (by decide) (fun q => ?_) (fun q => ?_)
  · exact K _ T.2
  · exact absurd T.1 q
set_option maxHeartbeats 4000000 in
set_option maxRecDepth 20000 in
theorem law_check {X : jX} {v : Int} {N : jM} (hv : 0 ≤ v ∧ v + 6 ≤ (X.1 : Int)) (hL : X.1 ≤ 3072) (I : ∃ f g Z, jIn f g Z N) (K : ∀ O, (∃ f g Z, jIn f g Z O) → jG D_L_law X FL shJ 111 13628 QL 1565 [(0, jR (-2)), (1, jR 0), (2, jR 74), (3, jI v)] [] O) : jG D_L_law X FL shJ 111 13628 QL 833 [(0, jR (-2)), (1, jR 0), (2, jR 74), (3, jI v)] [] N := by
  obtain ⟨f, g, Z, I⟩ := I
  refine j_aload_n 1 dL_law_833 rfl rfl ?_
  refine j_aload_n 0 dL_law_834 rfl rfl ?_
  refine j_iload_n 3 dL_law_835 rfl rfl ?_
  refine j_iconst dL_law_836 (by decide) ?_
  refine j_iadd dL_law_837 (by omega) ?_
  refine j_sld (i := v + 1) ⟨by omega, by omega, by omega⟩ dL_law_838 ?_
  refine j_aload_n 0 dL_law_839 rfl rfl ?_
  refine j_iload_n 3 dL_law_840 rfl rfl ?_
  refine j_iconst dL_law_841 (by decide) ?_
  refine j_iadd dL_law_842 (by omega) ?_
  refine j_sld (i := v + 2) ⟨by omega, by omega, by omega⟩ dL_law_843 ?_
  refine j_aload_n 0 dL_law_844 rfl rfl ?_
  refine j_iload_n 3 dL_law_845 rfl rfl ?_
  refine j_iconst dL_law_846 (by decide) ?_
  refine j_iadd dL_law_847 (by omega) ?_
  refine j_sld (i := v + 3) ⟨by omega, by omega, by omega⟩ dL_law_848 ?_
  refine j_callViG l_L_81 ⟨Nat.le_of_ble_eq_true rfl, Nat.le_of_ble_eq_true rfl⟩ ⟨rfl, rfl⟩ ⟨Nat.le_of_ble_eq_true rfl, Nat.le_of_ble_eq_true rfl⟩ dL_law_849 ob_0 (c_X8_check N (X.2 (v + 1).toNat).toInt (X.2 (v + 2).toNat).toInt (X.2 (v + 3).toNat).toInt (af_cmills I) (af_cchecks I)) rfl rfl (Nat.le_of_ble_eq_true rfl) (fun r1 N1 h8 => ?_)
  have k : rSm N N1 := kc_check h8
  refine j_aload_n 2 dL_law_852 rfl rfl ?_
  refine j_aload_n 0 dL_law_853 rfl rfl ?_
  refine j_iload_n 3 dL_law_854 rfl rfl ?_
  refine j_iconst dL_law_855 (by decide) ?_
  refine j_iadd dL_law_856 (by omega) ?_
  refine j_sld (i := v + 1) ⟨by omega, by omega, by omega⟩ dL_law_857 ?_
  refine j_aload_n 0 dL_law_858 rfl rfl ?_
  refine j_iload_n 3 dL_law_859 rfl rfl ?_
  refine j_iconst dL_law_860 (by decide) ?_
  refine j_iadd dL_law_861 (by omega) ?_
  refine j_sld (i := v + 2) ⟨by omega, by omega, by omega⟩ dL_law_862 ?_
  refine j_aload_n 0 dL_law_863 rfl rfl ?_
  refine j_iload_n 3 dL_law_864 rfl rfl ?_
  refine j_iconst dL_law_865 (by decide) ?_
  refine j_iadd dL_law_866 (by omega) ?_
  refine j_sld (i := v + 3) ⟨by omega, by omega, by omega⟩ dL_law_867 ?_
  refine j_callViG l_L_84 ⟨Nat.le_of_ble_eq_true rfl, Nat.le_of_ble_eq_true rfl⟩ ⟨rfl, rfl⟩ ⟨Nat.le_of_ble_eq_true rfl, Nat.le_of_ble_eq_true rfl⟩ dL_law_868 ob_74 (c_X9_check N1 (X.2 (v + 1).toNat).toInt (X.2 (v + 2).toNat).toInt (X.2 (v + 3).toNat).toInt (af_rmills k I) (af_rchecks k I)) rfl rfl (Nat.le_of_ble_eq_true rfl) (fun r2 N2 h9 => ?_)
  have T := T_check I h8 h9
  refine j_icmp_eq (tgt := 1565) dL_law_871 (by decide) (fun q => ?_) (fun q => ?_)
  · exact K _ T.2
  · exact absurd T.1 q
set_option maxHeartbeats 4000000 in
set_option maxRecDepth 20000 in
theorem law_truth {X : jX} {v : Int} {N : jM} (hv : 0 ≤ v ∧ v + 6 ≤ (X.1 : Int)) (hL : X.1 ≤ 3072) (I : ∃ f g Z, jIn f g Z N) (K : ∀ O, (∃ f g Z, jIn f g Z O) → jG D_L_law X FL shJ 111 13628 QL 1565 [(0, jR (-2)), (1, jR 0), (2, jR 74), (3, jI v)] [] O) : jG D_L_law X FL shJ 111 13628 QL 876 [(0, jR (-2)), (1, jR 0), (2, jR 74), (3, jI v)] [] N := by
  obtain ⟨f, g, Z, I⟩ := I
  refine j_aload_n 1 dL_law_876 rfl rfl ?_
  refine j_aload_n 0 dL_law_877 rfl rfl ?_
  refine j_iload_n 3 dL_law_878 rfl rfl ?_
  refine j_iconst dL_law_879 (by decide) ?_
  refine j_iadd dL_law_880 (by omega) ?_
  refine j_sld (i := v + 1) ⟨by omega, by omega, by omega⟩ dL_law_881 ?_
  refine j_aload_n 0 dL_law_882 rfl rfl ?_
  refine j_iload_n 3 dL_law_883 rfl rfl ?_
  refine j_iconst dL_law_884 (by decide) ?_
  refine j_iadd dL_law_885 (by omega) ?_
  refine j_sld (i := v + 2) ⟨by omega, by omega, by omega⟩ dL_law_886 ?_
  refine j_aload_n 0 dL_law_887 rfl rfl ?_
  refine j_iload_n 3 dL_law_888 rfl rfl ?_
  refine j_iconst dL_law_889 (by decide) ?_
  refine j_iadd dL_law_890 (by omega) ?_
  refine j_sld (i := v + 3) ⟨by omega, by omega, by omega⟩ dL_law_891 ?_
  refine j_callViG l_L_85 ⟨Nat.le_of_ble_eq_true rfl, Nat.le_of_ble_eq_true rfl⟩ ⟨rfl, rfl⟩ ⟨Nat.le_of_ble_eq_true rfl, Nat.le_of_ble_eq_true rfl⟩ dL_law_892 ob_0 (c_X8_truth N (X.2 (v + 1).toNat).toInt (X.2 (v + 2).toNat).toInt (X.2 (v + 3).toNat).toInt (af_cmills I) (af_cchecks I) (af_ccerr I)) rfl rfl (Nat.le_of_ble_eq_true rfl) (fun r1 N1 h8 => ?_)
  have k : rSm N N1 := sC_r (af_f I).1 (sc_truth (af_f I).1 h8)
  refine j_aload_n 2 dL_law_895 rfl rfl ?_
  refine j_aload_n 0 dL_law_896 rfl rfl ?_
  refine j_iload_n 3 dL_law_897 rfl rfl ?_
  refine j_iconst dL_law_898 (by decide) ?_
  refine j_iadd dL_law_899 (by omega) ?_
  refine j_sld (i := v + 1) ⟨by omega, by omega, by omega⟩ dL_law_900 ?_
  refine j_aload_n 0 dL_law_901 rfl rfl ?_
  refine j_iload_n 3 dL_law_902 rfl rfl ?_
  refine j_iconst dL_law_903 (by decide) ?_
  refine j_iadd dL_law_904 (by omega) ?_
  refine j_sld (i := v + 2) ⟨by omega, by omega, by omega⟩ dL_law_905 ?_
  refine j_aload_n 0 dL_law_906 rfl rfl ?_
  refine j_iload_n 3 dL_law_907 rfl rfl ?_
  refine j_iconst dL_law_908 (by decide) ?_
  refine j_iadd dL_law_909 (by omega) ?_
  refine j_sld (i := v + 3) ⟨by omega, by omega, by omega⟩ dL_law_910 ?_
  refine j_callViG l_L_88 ⟨Nat.le_of_ble_eq_true rfl, Nat.le_of_ble_eq_true rfl⟩ ⟨rfl, rfl⟩ ⟨Nat.le_of_ble_eq_true rfl, Nat.le_of_ble_eq_true rfl⟩ dL_law_911 ob_74 (c_X9_truth N1 (X.2 (v + 1).toNat).toInt (X.2 (v + 2).toNat).toInt (X.2 (v + 3).toNat).toInt (af_rmills k I) (af_rchecks k I) (af_rcerr k I)) rfl rfl (Nat.le_of_ble_eq_true rfl) (fun r2 N2 h9 => ?_)
  have T := T_truth I h8 h9
  refine j_icmp_eq (tgt := 1565) dL_law_914 (by decide) (fun q => ?_) (fun q => ?_)
  · exact K _ T.2
  · exact absurd T.1 q
set_option maxHeartbeats 4000000 in
set_option maxRecDepth 20000 in
theorem law_work {X : jX} {v : Int} {N : jM} (hv : 0 ≤ v ∧ v + 6 ≤ (X.1 : Int)) (hL : X.1 ≤ 3072) (I : ∃ f g Z, jIn f g Z N) (K : ∀ O, (∃ f g Z, jIn f g Z O) → jG D_L_law X FL shJ 111 13628 QL 1565 [(0, jR (-2)), (1, jR 0), (2, jR 74), (3, jI v)] [] O) : jG D_L_law X FL shJ 111 13628 QL 919 [(0, jR (-2)), (1, jR 0), (2, jR 74), (3, jI v)] [] N := by
  obtain ⟨f, g, Z, I⟩ := I
  refine j_aload_n 1 dL_law_919 rfl rfl ?_
  refine j_aload_n 0 dL_law_920 rfl rfl ?_
  refine j_iload_n 3 dL_law_921 rfl rfl ?_
  refine j_iconst dL_law_922 (by decide) ?_
  refine j_iadd dL_law_923 (by omega) ?_
  refine j_sld (i := v + 1) ⟨by omega, by omega, by omega⟩ dL_law_924 ?_
  refine j_aload_n 0 dL_law_925 rfl rfl ?_
  refine j_iload_n 3 dL_law_926 rfl rfl ?_
  refine j_iconst dL_law_927 (by decide) ?_
  refine j_iadd dL_law_928 (by omega) ?_
  refine j_sld (i := v + 2) ⟨by omega, by omega, by omega⟩ dL_law_929 ?_
  refine j_aload_n 0 dL_law_930 rfl rfl ?_
  refine j_iload_n 3 dL_law_931 rfl rfl ?_
  refine j_iconst dL_law_932 (by decide) ?_
  refine j_iadd dL_law_933 (by omega) ?_
  refine j_sld (i := v + 3) ⟨by omega, by omega, by omega⟩ dL_law_934 ?_
  refine j_callViG l_L_89 ⟨Nat.le_of_ble_eq_true rfl, Nat.le_of_ble_eq_true rfl⟩ ⟨rfl, rfl⟩ ⟨Nat.le_of_ble_eq_true rfl, Nat.le_of_ble_eq_true rfl⟩ dL_law_935 ob_0 (c_X8_work N (X.2 (v + 1).toNat).toInt (X.2 (v + 2).toNat).toInt (X.2 (v + 3).toNat).toInt (af_cio I) (af_clines I) (af_cchecks I) (af_ccerr I) (af_clwhere I) (af_clin I) (af_clout I)) rfl rfl (Nat.le_of_ble_eq_true rfl) (fun r1 N1 h8 => ?_)
  have k : rSm N N1 := sC_r (af_f I).1 (sc_work (af_f I).1 h8)
  refine j_aload_n 2 dL_law_938 rfl rfl ?_
  refine j_aload_n 0 dL_law_939 rfl rfl ?_
  refine j_iload_n 3 dL_law_940 rfl rfl ?_
  refine j_iconst dL_law_941 (by decide) ?_
  refine j_iadd dL_law_942 (by omega) ?_
  refine j_sld (i := v + 1) ⟨by omega, by omega, by omega⟩ dL_law_943 ?_
  refine j_aload_n 0 dL_law_944 rfl rfl ?_
  refine j_iload_n 3 dL_law_945 rfl rfl ?_
  refine j_iconst dL_law_946 (by decide) ?_
  refine j_iadd dL_law_947 (by omega) ?_
  refine j_sld (i := v + 2) ⟨by omega, by omega, by omega⟩ dL_law_948 ?_
  refine j_aload_n 0 dL_law_949 rfl rfl ?_
  refine j_iload_n 3 dL_law_950 rfl rfl ?_
  refine j_iconst dL_law_951 (by decide) ?_
  refine j_iadd dL_law_952 (by omega) ?_
  refine j_sld (i := v + 3) ⟨by omega, by omega, by omega⟩ dL_law_953 ?_
  refine j_callViG l_L_92 ⟨Nat.le_of_ble_eq_true rfl, Nat.le_of_ble_eq_true rfl⟩ ⟨rfl, rfl⟩ ⟨Nat.le_of_ble_eq_true rfl, Nat.le_of_ble_eq_true rfl⟩ dL_law_954 ob_74 (c_X9_work N1 (X.2 (v + 1).toNat).toInt (X.2 (v + 2).toNat).toInt (X.2 (v + 3).toNat).toInt (af_rhands k I) (af_rlines k I) (af_rchecks k I) (af_rcerr k I) (af_rlwhere k I) (af_rlin k I) (af_rlout k I)) rfl rfl (Nat.le_of_ble_eq_true rfl) (fun r2 N2 h9 => ?_)
  have T := T_work I h8 h9
  refine j_icmp_eq (tgt := 1565) dL_law_957 (by decide) (fun q => ?_) (fun q => ?_)
  · exact K _ T.2
  · exact absurd T.1 q
set_option maxHeartbeats 4000000 in
set_option maxRecDepth 20000 in
theorem law_breach {X : jX} {v : Int} {N : jM} (hv : 0 ≤ v ∧ v + 6 ≤ (X.1 : Int)) (hL : X.1 ≤ 3072) (I : ∃ f g Z, jIn f g Z N) (K : ∀ O, (∃ f g Z, jIn f g Z O) → jG D_L_law X FL shJ 111 13628 QL 1565 [(0, jR (-2)), (1, jR 0), (2, jR 74), (3, jI v)] [] O) : jG D_L_law X FL shJ 111 13628 QL 962 [(0, jR (-2)), (1, jR 0), (2, jR 74), (3, jI v)] [] N := by
  obtain ⟨f, g, Z, I⟩ := I
  refine j_aload_n 1 dL_law_962 rfl rfl ?_
  refine j_aload_n 0 dL_law_963 rfl rfl ?_
  refine j_iload_n 3 dL_law_964 rfl rfl ?_
  refine j_iconst dL_law_965 (by decide) ?_
  refine j_iadd dL_law_966 (by omega) ?_
  refine j_sld (i := v + 1) ⟨by omega, by omega, by omega⟩ dL_law_967 ?_
  refine j_aload_n 0 dL_law_968 rfl rfl ?_
  refine j_iload_n 3 dL_law_969 rfl rfl ?_
  refine j_iconst dL_law_970 (by decide) ?_
  refine j_iadd dL_law_971 (by omega) ?_
  refine j_sld (i := v + 2) ⟨by omega, by omega, by omega⟩ dL_law_972 ?_
  refine j_aload_n 0 dL_law_973 rfl rfl ?_
  refine j_iload_n 3 dL_law_974 rfl rfl ?_
  refine j_iconst dL_law_975 (by decide) ?_
  refine j_iadd dL_law_976 (by omega) ?_
  refine j_sld (i := v + 3) ⟨by omega, by omega, by omega⟩ dL_law_977 ?_
  refine j_callViG l_L_93 ⟨Nat.le_of_ble_eq_true rfl, Nat.le_of_ble_eq_true rfl⟩ ⟨rfl, rfl⟩ ⟨Nat.le_of_ble_eq_true rfl, Nat.le_of_ble_eq_true rfl⟩ dL_law_978 ob_0 (c_X8_breach N f (af_f I).1 (X.2 (v + 1).toNat).toInt (X.2 (v + 2).toNat).toInt (X.2 (v + 3).toNat).toInt (af_chands I) (af_cmills I) (af_clines I) (af_cchecks I) (af_ccerr I) (af_clwhere I) (af_clin I) (af_clout I) (af_cgrade I) (af_cpapers I) (af_cfrom I) (af_cto I) (af_ckind I) (af_ctrade I) (af_7 I) (af_cact I)) rfl rfl (Nat.le_of_ble_eq_true rfl) (fun r1 N1 h8 => ?_)
  have k : rSm N N1 := sC_r (af_f I).1 (sc_breach (af_f I).1 (af_f I).1 h8)
  refine j_aload_n 2 dL_law_981 rfl rfl ?_
  refine j_aload_n 0 dL_law_982 rfl rfl ?_
  refine j_iload_n 3 dL_law_983 rfl rfl ?_
  refine j_iconst dL_law_984 (by decide) ?_
  refine j_iadd dL_law_985 (by omega) ?_
  refine j_sld (i := v + 1) ⟨by omega, by omega, by omega⟩ dL_law_986 ?_
  refine j_aload_n 0 dL_law_987 rfl rfl ?_
  refine j_iload_n 3 dL_law_988 rfl rfl ?_
  refine j_iconst dL_law_989 (by decide) ?_
  refine j_iadd dL_law_990 (by omega) ?_
  refine j_sld (i := v + 2) ⟨by omega, by omega, by omega⟩ dL_law_991 ?_
  refine j_aload_n 0 dL_law_992 rfl rfl ?_
  refine j_iload_n 3 dL_law_993 rfl rfl ?_
  refine j_iconst dL_law_994 (by decide) ?_
  refine j_iadd dL_law_995 (by omega) ?_
  refine j_sld (i := v + 3) ⟨by omega, by omega, by omega⟩ dL_law_996 ?_
  refine j_callViG l_L_96 ⟨Nat.le_of_ble_eq_true rfl, Nat.le_of_ble_eq_true rfl⟩ ⟨rfl, rfl⟩ ⟨Nat.le_of_ble_eq_true rfl, Nat.le_of_ble_eq_true rfl⟩ dL_law_997 ob_74 (c_X9_breach N1 (X.2 (v + 1).toNat).toInt (X.2 (v + 2).toNat).toInt (X.2 (v + 3).toNat).toInt (af_rhands k I) (af_rlines k I) (af_rlhand k I) (af_rlday k I) (af_rlwhere k I) (af_rpapers k I) (af_rchecks k I) (af_rcerr k I) (af_rlin k I) (af_rlout k I) (af_rkind k I) (af_rgrade k I) (af_rtrade k I) (af_rpaper k I) (af_ract k I)) rfl rfl (Nat.le_of_ble_eq_true rfl) (fun r2 N2 h9 => ?_)
  have T := T_breach (af_f I).1 I h8 h9
  refine j_icmp_eq (tgt := 1565) dL_law_1000 (by decide) (fun q => ?_) (fun q => ?_)
  · exact K _ T.2
  · exact absurd T.1 q
set_option maxHeartbeats 4000000 in
set_option maxRecDepth 20000 in
theorem law_clash {X : jX} {v : Int} {N : jM} (hv : 0 ≤ v ∧ v + 6 ≤ (X.1 : Int)) (hL : X.1 ≤ 3072) (I : ∃ f g Z, jIn f g Z N) (K : ∀ O, (∃ f g Z, jIn f g Z O) → jG D_L_law X FL shJ 111 13628 QL 1565 [(0, jR (-2)), (1, jR 0), (2, jR 74), (3, jI v)] [] O) : jG D_L_law X FL shJ 111 13628 QL 1005 [(0, jR (-2)), (1, jR 0), (2, jR 74), (3, jI v)] [] N := by
  obtain ⟨f, g, Z, I⟩ := I
  refine j_aload_n 1 dL_law_1005 rfl rfl ?_
  refine j_aload_n 0 dL_law_1006 rfl rfl ?_
  refine j_iload_n 3 dL_law_1007 rfl rfl ?_
  refine j_iconst dL_law_1008 (by decide) ?_
  refine j_iadd dL_law_1009 (by omega) ?_
  refine j_sld (i := v + 1) ⟨by omega, by omega, by omega⟩ dL_law_1010 ?_
  refine j_aload_n 0 dL_law_1011 rfl rfl ?_
  refine j_iload_n 3 dL_law_1012 rfl rfl ?_
  refine j_iconst dL_law_1013 (by decide) ?_
  refine j_iadd dL_law_1014 (by omega) ?_
  refine j_sld (i := v + 2) ⟨by omega, by omega, by omega⟩ dL_law_1015 ?_
  refine j_callViG l_L_97 ⟨Nat.le_of_ble_eq_true rfl, Nat.le_of_ble_eq_true rfl⟩ ⟨rfl, rfl⟩ ⟨Nat.le_of_ble_eq_true rfl, Nat.le_of_ble_eq_true rfl⟩ dL_law_1016 ob_0 (c_X8_clash N (X.2 (v + 1).toNat).toInt (X.2 (v + 2).toNat).toInt (af_clines I) (af_cchecks I) (af_ccerr I) (af_clwhere I) (af_clin I) (af_clout I)) rfl rfl (Nat.le_of_ble_eq_true rfl) (fun r1 N1 h8 => ?_)
  have k : rSm N N1 := sC_r (af_f I).1 (sc_clash (af_f I).1 h8)
  refine j_aload_n 2 dL_law_1019 rfl rfl ?_
  refine j_aload_n 0 dL_law_1020 rfl rfl ?_
  refine j_iload_n 3 dL_law_1021 rfl rfl ?_
  refine j_iconst dL_law_1022 (by decide) ?_
  refine j_iadd dL_law_1023 (by omega) ?_
  refine j_sld (i := v + 1) ⟨by omega, by omega, by omega⟩ dL_law_1024 ?_
  refine j_aload_n 0 dL_law_1025 rfl rfl ?_
  refine j_iload_n 3 dL_law_1026 rfl rfl ?_
  refine j_iconst dL_law_1027 (by decide) ?_
  refine j_iadd dL_law_1028 (by omega) ?_
  refine j_sld (i := v + 2) ⟨by omega, by omega, by omega⟩ dL_law_1029 ?_
  refine j_callViG l_L_100 ⟨Nat.le_of_ble_eq_true rfl, Nat.le_of_ble_eq_true rfl⟩ ⟨rfl, rfl⟩ ⟨Nat.le_of_ble_eq_true rfl, Nat.le_of_ble_eq_true rfl⟩ dL_law_1030 ob_74 (c_X9_clash N1 (X.2 (v + 1).toNat).toInt (X.2 (v + 2).toNat).toInt (af_rhands k I) (af_rlines k I) (af_rchecks k I) (af_rcerr k I) (af_rlwhere k I) (af_rlin k I) (af_rlout k I)) rfl rfl (Nat.le_of_ble_eq_true rfl) (fun r2 N2 h9 => ?_)
  have T := T_clash I h8 h9
  refine j_icmp_eq (tgt := 1565) dL_law_1033 (by decide) (fun q => ?_) (fun q => ?_)
  · exact K _ T.2
  · exact absurd T.1 q
set_option maxHeartbeats 4000000 in
set_option maxRecDepth 20000 in
theorem law_doubted {X : jX} {v : Int} {N : jM} (hv : 0 ≤ v ∧ v + 6 ≤ (X.1 : Int)) (hL : X.1 ≤ 3072) (I : ∃ f g Z, jIn f g Z N) (K : ∀ O, (∃ f g Z, jIn f g Z O) → jG D_L_law X FL shJ 111 13628 QL 1565 [(0, jR (-2)), (1, jR 0), (2, jR 74), (3, jI v)] [] O) : jG D_L_law X FL shJ 111 13628 QL 1038 [(0, jR (-2)), (1, jR 0), (2, jR 74), (3, jI v)] [] N := by
  obtain ⟨f, g, Z, I⟩ := I
  refine j_aload_n 1 dL_law_1038 rfl rfl ?_
  refine j_aload_n 0 dL_law_1039 rfl rfl ?_
  refine j_iload_n 3 dL_law_1040 rfl rfl ?_
  refine j_iconst dL_law_1041 (by decide) ?_
  refine j_iadd dL_law_1042 (by omega) ?_
  refine j_sld (i := v + 1) ⟨by omega, by omega, by omega⟩ dL_law_1043 ?_
  refine j_aload_n 0 dL_law_1044 rfl rfl ?_
  refine j_iload_n 3 dL_law_1045 rfl rfl ?_
  refine j_iconst dL_law_1046 (by decide) ?_
  refine j_iadd dL_law_1047 (by omega) ?_
  refine j_sld (i := v + 2) ⟨by omega, by omega, by omega⟩ dL_law_1048 ?_
  refine j_aload_n 0 dL_law_1049 rfl rfl ?_
  refine j_iload_n 3 dL_law_1050 rfl rfl ?_
  refine j_iconst dL_law_1051 (by decide) ?_
  refine j_iadd dL_law_1052 (by omega) ?_
  refine j_sld (i := v + 3) ⟨by omega, by omega, by omega⟩ dL_law_1053 ?_
  refine j_callViG l_L_101 ⟨Nat.le_of_ble_eq_true rfl, Nat.le_of_ble_eq_true rfl⟩ ⟨rfl, rfl⟩ ⟨Nat.le_of_ble_eq_true rfl, Nat.le_of_ble_eq_true rfl⟩ dL_law_1054 ob_0 (c_X8_doubted N (X.2 (v + 1).toNat).toInt (X.2 (v + 2).toNat).toInt (X.2 (v + 3).toNat).toInt (af_clines I) (af_cchecks I) (af_ccerr I) (af_clwhere I) (af_clin I) (af_clout I)) rfl rfl (Nat.le_of_ble_eq_true rfl) (fun r1 N1 h8 => ?_)
  have k : rSm N N1 := sC_r (af_f I).1 (sc_doubted (af_f I).1 h8)
  refine j_aload_n 2 dL_law_1057 rfl rfl ?_
  refine j_aload_n 0 dL_law_1058 rfl rfl ?_
  refine j_iload_n 3 dL_law_1059 rfl rfl ?_
  refine j_iconst dL_law_1060 (by decide) ?_
  refine j_iadd dL_law_1061 (by omega) ?_
  refine j_sld (i := v + 1) ⟨by omega, by omega, by omega⟩ dL_law_1062 ?_
  refine j_aload_n 0 dL_law_1063 rfl rfl ?_
  refine j_iload_n 3 dL_law_1064 rfl rfl ?_
  refine j_iconst dL_law_1065 (by decide) ?_
  refine j_iadd dL_law_1066 (by omega) ?_
  refine j_sld (i := v + 2) ⟨by omega, by omega, by omega⟩ dL_law_1067 ?_
  refine j_aload_n 0 dL_law_1068 rfl rfl ?_
  refine j_iload_n 3 dL_law_1069 rfl rfl ?_
  refine j_iconst dL_law_1070 (by decide) ?_
  refine j_iadd dL_law_1071 (by omega) ?_
  refine j_sld (i := v + 3) ⟨by omega, by omega, by omega⟩ dL_law_1072 ?_
  refine j_callViG l_L_104 ⟨Nat.le_of_ble_eq_true rfl, Nat.le_of_ble_eq_true rfl⟩ ⟨rfl, rfl⟩ ⟨Nat.le_of_ble_eq_true rfl, Nat.le_of_ble_eq_true rfl⟩ dL_law_1073 ob_74 (c_X9_doubted N1 (X.2 (v + 1).toNat).toInt (X.2 (v + 2).toNat).toInt (X.2 (v + 3).toNat).toInt (af_rhands k I) (af_rlines k I) (af_rchecks k I) (af_rcerr k I) (af_rlwhere k I) (af_rlin k I) (af_rlout k I)) rfl rfl (Nat.le_of_ble_eq_true rfl) (fun r2 N2 h9 => ?_)
  have T := T_doubted I h8 h9
  refine j_icmp_eq (tgt := 1565) dL_law_1076 (by decide) (fun q => ?_) (fun q => ?_)
  · exact K _ T.2
  · exact absurd T.1 q
set_option maxHeartbeats 4000000 in
set_option maxRecDepth 20000 in
theorem law_period {X : jX} {v : Int} {N : jM} (hv : 0 ≤ v ∧ v + 6 ≤ (X.1 : Int)) (hL : X.1 ≤ 3072) (I : ∃ f g Z, jIn f g Z N) (K : ∀ O, (∃ f g Z, jIn f g Z O) → jG D_L_law X FL shJ 111 13628 QL 1565 [(0, jR (-2)), (1, jR 0), (2, jR 74), (3, jI v)] [] O) : jG D_L_law X FL shJ 111 13628 QL 1081 [(0, jR (-2)), (1, jR 0), (2, jR 74), (3, jI v)] [] N := by
  obtain ⟨f, g, Z, I⟩ := I
  refine j_aload_n 1 dL_law_1081 rfl rfl ?_
  refine j_aload_n 0 dL_law_1082 rfl rfl ?_
  refine j_iload_n 3 dL_law_1083 rfl rfl ?_
  refine j_iconst dL_law_1084 (by decide) ?_
  refine j_iadd dL_law_1085 (by omega) ?_
  refine j_sld (i := v + 1) ⟨by omega, by omega, by omega⟩ dL_law_1086 ?_
  refine j_aload_n 0 dL_law_1087 rfl rfl ?_
  refine j_iload_n 3 dL_law_1088 rfl rfl ?_
  refine j_iconst dL_law_1089 (by decide) ?_
  refine j_iadd dL_law_1090 (by omega) ?_
  refine j_sld (i := v + 2) ⟨by omega, by omega, by omega⟩ dL_law_1091 ?_
  refine j_aload_n 0 dL_law_1092 rfl rfl ?_
  refine j_iload_n 3 dL_law_1093 rfl rfl ?_
  refine j_iconst dL_law_1094 (by decide) ?_
  refine j_iadd dL_law_1095 (by omega) ?_
  refine j_sld (i := v + 3) ⟨by omega, by omega, by omega⟩ dL_law_1096 ?_
  refine j_callViG l_L_105 ⟨Nat.le_of_ble_eq_true rfl, Nat.le_of_ble_eq_true rfl⟩ ⟨rfl, rfl⟩ ⟨Nat.le_of_ble_eq_true rfl, Nat.le_of_ble_eq_true rfl⟩ dL_law_1097 ob_0 (c_X8_period N (X.2 (v + 1).toNat).toInt (X.2 (v + 2).toNat).toInt (X.2 (v + 3).toNat).toInt) rfl rfl (Nat.le_of_ble_eq_true rfl) (fun r1 N1 h8 => ?_)
  have k : rSm N N1 := kc_period h8
  refine j_aload_n 2 dL_law_1100 rfl rfl ?_
  refine j_aload_n 0 dL_law_1101 rfl rfl ?_
  refine j_iload_n 3 dL_law_1102 rfl rfl ?_
  refine j_iconst dL_law_1103 (by decide) ?_
  refine j_iadd dL_law_1104 (by omega) ?_
  refine j_sld (i := v + 1) ⟨by omega, by omega, by omega⟩ dL_law_1105 ?_
  refine j_aload_n 0 dL_law_1106 rfl rfl ?_
  refine j_iload_n 3 dL_law_1107 rfl rfl ?_
  refine j_iconst dL_law_1108 (by decide) ?_
  refine j_iadd dL_law_1109 (by omega) ?_
  refine j_sld (i := v + 2) ⟨by omega, by omega, by omega⟩ dL_law_1110 ?_
  refine j_aload_n 0 dL_law_1111 rfl rfl ?_
  refine j_iload_n 3 dL_law_1112 rfl rfl ?_
  refine j_iconst dL_law_1113 (by decide) ?_
  refine j_iadd dL_law_1114 (by omega) ?_
  refine j_sld (i := v + 3) ⟨by omega, by omega, by omega⟩ dL_law_1115 ?_
  refine j_callViG l_L_108 ⟨Nat.le_of_ble_eq_true rfl, Nat.le_of_ble_eq_true rfl⟩ ⟨rfl, rfl⟩ ⟨Nat.le_of_ble_eq_true rfl, Nat.le_of_ble_eq_true rfl⟩ dL_law_1116 ob_74 (c_X9_period N1 (X.2 (v + 1).toNat).toInt (X.2 (v + 2).toNat).toInt (X.2 (v + 3).toNat).toInt) rfl rfl (Nat.le_of_ble_eq_true rfl) (fun r2 N2 h9 => ?_)
  have T := T_period I h8 h9
  refine j_icmp_eq (tgt := 1565) dL_law_1119 (by decide) (fun q => ?_) (fun q => ?_)
  · exact K _ T.2
  · exact absurd T.1 q
set_option maxHeartbeats 4000000 in
set_option maxRecDepth 20000 in
theorem law_can {X : jX} {v : Int} {N : jM} (hv : 0 ≤ v ∧ v + 6 ≤ (X.1 : Int)) (hL : X.1 ≤ 3072) (I : ∃ f g Z, jIn f g Z N) (K : ∀ O, (∃ f g Z, jIn f g Z O) → jG D_L_law X FL shJ 111 13628 QL 1565 [(0, jR (-2)), (1, jR 0), (2, jR 74), (3, jI v)] [] O) : jG D_L_law X FL shJ 111 13628 QL 1124 [(0, jR (-2)), (1, jR 0), (2, jR 74), (3, jI v)] [] N := by
  obtain ⟨f, g, Z, I⟩ := I
  refine j_aload_n 1 dL_law_1124 rfl rfl ?_
  refine j_aload_n 0 dL_law_1125 rfl rfl ?_
  refine j_iload_n 3 dL_law_1126 rfl rfl ?_
  refine j_iconst dL_law_1127 (by decide) ?_
  refine j_iadd dL_law_1128 (by omega) ?_
  refine j_sld (i := v + 1) ⟨by omega, by omega, by omega⟩ dL_law_1129 ?_
  refine j_aload_n 0 dL_law_1130 rfl rfl ?_
  refine j_iload_n 3 dL_law_1131 rfl rfl ?_
  refine j_iconst dL_law_1132 (by decide) ?_
  refine j_iadd dL_law_1133 (by omega) ?_
  refine j_sld (i := v + 2) ⟨by omega, by omega, by omega⟩ dL_law_1134 ?_
  refine j_aload_n 0 dL_law_1135 rfl rfl ?_
  refine j_iload_n 3 dL_law_1136 rfl rfl ?_
  refine j_iconst dL_law_1137 (by decide) ?_
  refine j_iadd dL_law_1138 (by omega) ?_
  refine j_sld (i := v + 3) ⟨by omega, by omega, by omega⟩ dL_law_1139 ?_
  refine j_aload_n 0 dL_law_1140 rfl rfl ?_
  refine j_iload_n 3 dL_law_1141 rfl rfl ?_
  refine j_iconst dL_law_1142 (by decide) ?_
  refine j_iadd dL_law_1143 (by omega) ?_
  refine j_sld (i := v + 4) ⟨by omega, by omega, by omega⟩ dL_law_1144 ?_
  refine j_aload_n 0 dL_law_1145 rfl rfl ?_
  refine j_iload_n 3 dL_law_1146 rfl rfl ?_
  refine j_iconst dL_law_1147 (by decide) ?_
  refine j_iadd dL_law_1148 (by omega) ?_
  refine j_sld (i := v + 5) ⟨by omega, by omega, by omega⟩ dL_law_1149 ?_
  refine j_callViG l_L_109 ⟨Nat.le_of_ble_eq_true rfl, Nat.le_of_ble_eq_true rfl⟩ ⟨rfl, rfl⟩ ⟨Nat.le_of_ble_eq_true rfl, Nat.le_of_ble_eq_true rfl⟩ dL_law_1150 ob_0 (c_X8_can N (X.2 (v + 1).toNat).toInt (X.2 (v + 2).toNat).toInt (X.2 (v + 3).toNat).toInt (X.2 (v + 4).toNat).toInt (X.2 (v + 5).toNat).toInt (af_cneeds I) (af_cminutes I)) rfl rfl (Nat.le_of_ble_eq_true rfl) (fun r1 N1 h8 => ?_)
  have k : rSm N N1 := sC_r (af_f I).1 (sc_can (af_f I).1 h8)
  refine j_aload_n 2 dL_law_1153 rfl rfl ?_
  refine j_aload_n 0 dL_law_1154 rfl rfl ?_
  refine j_iload_n 3 dL_law_1155 rfl rfl ?_
  refine j_iconst dL_law_1156 (by decide) ?_
  refine j_iadd dL_law_1157 (by omega) ?_
  refine j_sld (i := v + 1) ⟨by omega, by omega, by omega⟩ dL_law_1158 ?_
  refine j_aload_n 0 dL_law_1159 rfl rfl ?_
  refine j_iload_n 3 dL_law_1160 rfl rfl ?_
  refine j_iconst dL_law_1161 (by decide) ?_
  refine j_iadd dL_law_1162 (by omega) ?_
  refine j_sld (i := v + 2) ⟨by omega, by omega, by omega⟩ dL_law_1163 ?_
  refine j_aload_n 0 dL_law_1164 rfl rfl ?_
  refine j_iload_n 3 dL_law_1165 rfl rfl ?_
  refine j_iconst dL_law_1166 (by decide) ?_
  refine j_iadd dL_law_1167 (by omega) ?_
  refine j_sld (i := v + 3) ⟨by omega, by omega, by omega⟩ dL_law_1168 ?_
  refine j_aload_n 0 dL_law_1169 rfl rfl ?_
  refine j_iload_n 3 dL_law_1170 rfl rfl ?_
  refine j_iconst dL_law_1171 (by decide) ?_
  refine j_iadd dL_law_1172 (by omega) ?_
  refine j_sld (i := v + 4) ⟨by omega, by omega, by omega⟩ dL_law_1173 ?_
  refine j_aload_n 0 dL_law_1174 rfl rfl ?_
  refine j_iload_n 3 dL_law_1175 rfl rfl ?_
  refine j_iconst dL_law_1176 (by decide) ?_
  refine j_iadd dL_law_1177 (by omega) ?_
  refine j_sld (i := v + 5) ⟨by omega, by omega, by omega⟩ dL_law_1178 ?_
  refine j_callViG l_L_112 ⟨Nat.le_of_ble_eq_true rfl, Nat.le_of_ble_eq_true rfl⟩ ⟨rfl, rfl⟩ ⟨Nat.le_of_ble_eq_true rfl, Nat.le_of_ble_eq_true rfl⟩ dL_law_1179 ob_74 (c_X9_can N1 (X.2 (v + 1).toNat).toInt (X.2 (v + 2).toNat).toInt (X.2 (v + 3).toNat).toInt (X.2 (v + 4).toNat).toInt (X.2 (v + 5).toNat).toInt (af_rneeds k I) (af_rminutes k I)) rfl rfl (Nat.le_of_ble_eq_true rfl) (fun r2 N2 h9 => ?_)
  have T := T_can I h8 h9
  refine j_icmp_eq (tgt := 1565) dL_law_1182 (by decide) (fun q => ?_) (fun q => ?_)
  · exact K _ T.2
  · exact absurd T.1 q
set_option maxHeartbeats 4000000 in
set_option maxRecDepth 20000 in
theorem law_lost {X : jX} {v : Int} {N : jM} (hv : 0 ≤ v ∧ v + 6 ≤ (X.1 : Int)) (hL : X.1 ≤ 3072) (I : ∃ f g Z, jIn f g Z N) (K : ∀ O, (∃ f g Z, jIn f g Z O) → jG D_L_law X FL shJ 111 13628 QL 1565 [(0, jR (-2)), (1, jR 0), (2, jR 74), (3, jI v)] [] O) : jG D_L_law X FL shJ 111 13628 QL 1187 [(0, jR (-2)), (1, jR 0), (2, jR 74), (3, jI v)] [] N := by
  obtain ⟨f, g, Z, I⟩ := I
  refine j_aload_n 1 dL_law_1187 rfl rfl ?_
  refine j_aload_n 0 dL_law_1188 rfl rfl ?_
  refine j_iload_n 3 dL_law_1189 rfl rfl ?_
  refine j_iconst dL_law_1190 (by decide) ?_
  refine j_iadd dL_law_1191 (by omega) ?_
  refine j_sld (i := v + 1) ⟨by omega, by omega, by omega⟩ dL_law_1192 ?_
  refine j_aload_n 0 dL_law_1193 rfl rfl ?_
  refine j_iload_n 3 dL_law_1194 rfl rfl ?_
  refine j_iconst dL_law_1195 (by decide) ?_
  refine j_iadd dL_law_1196 (by omega) ?_
  refine j_sld (i := v + 2) ⟨by omega, by omega, by omega⟩ dL_law_1197 ?_
  refine j_aload_n 0 dL_law_1198 rfl rfl ?_
  refine j_iload_n 3 dL_law_1199 rfl rfl ?_
  refine j_iconst dL_law_1200 (by decide) ?_
  refine j_iadd dL_law_1201 (by omega) ?_
  refine j_sld (i := v + 3) ⟨by omega, by omega, by omega⟩ dL_law_1202 ?_
  refine j_callVlG l_L_113 ⟨Nat.le_of_ble_eq_true rfl, Nat.le_of_ble_eq_true rfl⟩ ⟨rfl, rfl⟩ ⟨Nat.le_of_ble_eq_true rfl, Nat.le_of_ble_eq_true rfl⟩ dL_law_1203 ob_0 (c_X8_lost N (X.2 (v + 1).toNat).toInt (X.2 (v + 2).toNat).toInt (X.2 (v + 3).toNat).toInt) rfl rfl (Nat.le_of_ble_eq_true rfl) (fun r1 N1 h8 => ?_)
  have k : rSm N N1 := sC_r (af_f I).1 (sc_lost (af_f I).1 h8)
  refine j_aload_n 2 dL_law_1206 rfl rfl ?_
  refine j_aload_n 0 dL_law_1207 rfl rfl ?_
  refine j_iload_n 3 dL_law_1208 rfl rfl ?_
  refine j_iconst dL_law_1209 (by decide) ?_
  refine j_iadd dL_law_1210 (by omega) ?_
  refine j_sld (i := v + 1) ⟨by omega, by omega, by omega⟩ dL_law_1211 ?_
  refine j_aload_n 0 dL_law_1212 rfl rfl ?_
  refine j_iload_n 3 dL_law_1213 rfl rfl ?_
  refine j_iconst dL_law_1214 (by decide) ?_
  refine j_iadd dL_law_1215 (by omega) ?_
  refine j_sld (i := v + 2) ⟨by omega, by omega, by omega⟩ dL_law_1216 ?_
  refine j_aload_n 0 dL_law_1217 rfl rfl ?_
  refine j_iload_n 3 dL_law_1218 rfl rfl ?_
  refine j_iconst dL_law_1219 (by decide) ?_
  refine j_iadd dL_law_1220 (by omega) ?_
  refine j_sld (i := v + 3) ⟨by omega, by omega, by omega⟩ dL_law_1221 ?_
  refine j_callVlG l_L_117 ⟨Nat.le_of_ble_eq_true rfl, Nat.le_of_ble_eq_true rfl⟩ ⟨rfl, rfl⟩ ⟨Nat.le_of_ble_eq_true rfl, Nat.le_of_ble_eq_true rfl⟩ dL_law_1222 ob_74 (c_X9_lost N1 (X.2 (v + 1).toNat).toInt (X.2 (v + 2).toNat).toInt (X.2 (v + 3).toNat).toInt) rfl rfl (Nat.le_of_ble_eq_true rfl) (fun r2 N2 h9 => ?_)
  have T := T_lost I h8 h9
  refine j_lcmpE dL_law_1225 ?_
  refine j_eq (show _ = (0 : Int) from by rw [T.1, lg_cmp_rf]; rfl) ?_
  refine j_if_eq (tgt := 1565) dL_law_1226 (by decide) (fun q => ?_) (fun q => ?_)
  · exact K _ T.2
  · exact absurd rfl q
set_option maxHeartbeats 4000000 in
set_option maxRecDepth 20000 in
theorem law_bench {X : jX} {v : Int} {N : jM} (hv : 0 ≤ v ∧ v + 6 ≤ (X.1 : Int)) (hL : X.1 ≤ 3072) (I : ∃ f g Z, jIn f g Z N) (K : ∀ O, (∃ f g Z, jIn f g Z O) → jG D_L_law X FL shJ 111 13628 QL 1565 [(0, jR (-2)), (1, jR 0), (2, jR 74), (3, jI v)] [] O) : jG D_L_law X FL shJ 111 13628 QL 1231 [(0, jR (-2)), (1, jR 0), (2, jR 74), (3, jI v)] [] N := by
  obtain ⟨f, g, Z, I⟩ := I
  refine j_aload_n 1 dL_law_1231 rfl rfl ?_
  refine j_aload_n 0 dL_law_1232 rfl rfl ?_
  refine j_iload_n 3 dL_law_1233 rfl rfl ?_
  refine j_iconst dL_law_1234 (by decide) ?_
  refine j_iadd dL_law_1235 (by omega) ?_
  refine j_sld (i := v + 1) ⟨by omega, by omega, by omega⟩ dL_law_1236 ?_
  refine j_callViG l_L_118 ⟨Nat.le_of_ble_eq_true rfl, Nat.le_of_ble_eq_true rfl⟩ ⟨rfl, rfl⟩ ⟨Nat.le_of_ble_eq_true rfl, Nat.le_of_ble_eq_true rfl⟩ dL_law_1237 ob_0 (c_X8_bench N (X.2 (v + 1).toNat).toInt (af_cbenches I)) rfl rfl (Nat.le_of_ble_eq_true rfl) (fun r1 N1 h8 => ?_)
  have k : rSm N N1 := kc_bench h8
  refine j_aload_n 2 dL_law_1240 rfl rfl ?_
  refine j_aload_n 0 dL_law_1241 rfl rfl ?_
  refine j_iload_n 3 dL_law_1242 rfl rfl ?_
  refine j_iconst dL_law_1243 (by decide) ?_
  refine j_iadd dL_law_1244 (by omega) ?_
  refine j_sld (i := v + 1) ⟨by omega, by omega, by omega⟩ dL_law_1245 ?_
  refine j_callViG l_L_122 ⟨Nat.le_of_ble_eq_true rfl, Nat.le_of_ble_eq_true rfl⟩ ⟨rfl, rfl⟩ ⟨Nat.le_of_ble_eq_true rfl, Nat.le_of_ble_eq_true rfl⟩ dL_law_1246 ob_74 (c_X9_bench N1 (X.2 (v + 1).toNat).toInt (af_rbenches k I)) rfl rfl (Nat.le_of_ble_eq_true rfl) (fun r2 N2 h9 => ?_)
  have T := T_bench I h8 h9
  refine j_icmp_eq (tgt := 1565) dL_law_1249 (by decide) (fun q => ?_) (fun q => ?_)
  · exact K _ T.2
  · exact absurd T.1 q
set_option maxHeartbeats 4000000 in
set_option maxRecDepth 20000 in
theorem law_base {X : jX} {v : Int} {N : jM} (hv : 0 ≤ v ∧ v + 6 ≤ (X.1 : Int)) (hL : X.1 ≤ 3072) (I : ∃ f g Z, jIn f g Z N) (K : ∀ O, (∃ f g Z, jIn f g Z O) → jG D_L_law X FL shJ 111 13628 QL 1565 [(0, jR (-2)), (1, jR 0), (2, jR 74), (3, jI v)] [] O) : jG D_L_law X FL shJ 111 13628 QL 1254 [(0, jR (-2)), (1, jR 0), (2, jR 74), (3, jI v)] [] N := by
  obtain ⟨f, g, Z, I⟩ := I
  refine j_aload_n 1 dL_law_1254 rfl rfl ?_
  refine j_aload_n 0 dL_law_1255 rfl rfl ?_
  refine j_iload_n 3 dL_law_1256 rfl rfl ?_
  refine j_iconst dL_law_1257 (by decide) ?_
  refine j_iadd dL_law_1258 (by omega) ?_
  refine j_sld (i := v + 1) ⟨by omega, by omega, by omega⟩ dL_law_1259 ?_
  refine j_aload_n 0 dL_law_1260 rfl rfl ?_
  refine j_iload_n 3 dL_law_1261 rfl rfl ?_
  refine j_iconst dL_law_1262 (by decide) ?_
  refine j_iadd dL_law_1263 (by omega) ?_
  refine j_sld (i := v + 2) ⟨by omega, by omega, by omega⟩ dL_law_1264 ?_
  refine j_callViG l_L_123 ⟨Nat.le_of_ble_eq_true rfl, Nat.le_of_ble_eq_true rfl⟩ ⟨rfl, rfl⟩ ⟨Nat.le_of_ble_eq_true rfl, Nat.le_of_ble_eq_true rfl⟩ dL_law_1265 ob_0 (c_X8_base N (X.2 (v + 1).toNat).toInt (X.2 (v + 2).toNat).toInt) rfl rfl (Nat.le_of_ble_eq_true rfl) (fun r1 N1 h8 => ?_)
  have k : rSm N N1 := kc_base h8
  refine j_aload_n 2 dL_law_1268 rfl rfl ?_
  refine j_aload_n 0 dL_law_1269 rfl rfl ?_
  refine j_iload_n 3 dL_law_1270 rfl rfl ?_
  refine j_iconst dL_law_1271 (by decide) ?_
  refine j_iadd dL_law_1272 (by omega) ?_
  refine j_sld (i := v + 1) ⟨by omega, by omega, by omega⟩ dL_law_1273 ?_
  refine j_aload_n 0 dL_law_1274 rfl rfl ?_
  refine j_iload_n 3 dL_law_1275 rfl rfl ?_
  refine j_iconst dL_law_1276 (by decide) ?_
  refine j_iadd dL_law_1277 (by omega) ?_
  refine j_sld (i := v + 2) ⟨by omega, by omega, by omega⟩ dL_law_1278 ?_
  refine j_callViG l_L_126 ⟨Nat.le_of_ble_eq_true rfl, Nat.le_of_ble_eq_true rfl⟩ ⟨rfl, rfl⟩ ⟨Nat.le_of_ble_eq_true rfl, Nat.le_of_ble_eq_true rfl⟩ dL_law_1279 ob_74 (c_X9_base N1 (X.2 (v + 1).toNat).toInt (X.2 (v + 2).toNat).toInt) rfl rfl (Nat.le_of_ble_eq_true rfl) (fun r2 N2 h9 => ?_)
  have T := T_base I h8 h9
  refine j_icmp_eq (tgt := 1565) dL_law_1282 (by decide) (fun q => ?_) (fun q => ?_)
  · exact K _ T.2
  · exact absurd T.1 q
set_option maxHeartbeats 4000000 in
set_option maxRecDepth 20000 in
theorem law_sue {X : jX} {v : Int} {N : jM} (hv : 0 ≤ v ∧ v + 6 ≤ (X.1 : Int)) (hL : X.1 ≤ 3072) (I : ∃ f g Z, jIn f g Z N) (K : ∀ O, (∃ f g Z, jIn f g Z O) → jG D_L_law X FL shJ 111 13628 QL 1565 [(0, jR (-2)), (1, jR 0), (2, jR 74), (3, jI v)] [] O) : jG D_L_law X FL shJ 111 13628 QL 1287 [(0, jR (-2)), (1, jR 0), (2, jR 74), (3, jI v)] [] N := by
  obtain ⟨f, g, Z, I⟩ := I
  refine j_aload_n 1 dL_law_1287 rfl rfl ?_
  refine j_aload_n 0 dL_law_1288 rfl rfl ?_
  refine j_iload_n 3 dL_law_1289 rfl rfl ?_
  refine j_iconst dL_law_1290 (by decide) ?_
  refine j_iadd dL_law_1291 (by omega) ?_
  refine j_sld (i := v + 1) ⟨by omega, by omega, by omega⟩ dL_law_1292 ?_
  refine j_aload_n 0 dL_law_1293 rfl rfl ?_
  refine j_iload_n 3 dL_law_1294 rfl rfl ?_
  refine j_iconst dL_law_1295 (by decide) ?_
  refine j_iadd dL_law_1296 (by omega) ?_
  refine j_sld (i := v + 2) ⟨by omega, by omega, by omega⟩ dL_law_1297 ?_
  refine j_aload_n 0 dL_law_1298 rfl rfl ?_
  refine j_iload_n 3 dL_law_1299 rfl rfl ?_
  refine j_iconst dL_law_1300 (by decide) ?_
  refine j_iadd dL_law_1301 (by omega) ?_
  refine j_sld (i := v + 3) ⟨by omega, by omega, by omega⟩ dL_law_1302 ?_
  refine j_aload_n 0 dL_law_1303 rfl rfl ?_
  refine j_iload_n 3 dL_law_1304 rfl rfl ?_
  refine j_iconst dL_law_1305 (by decide) ?_
  refine j_iadd dL_law_1306 (by omega) ?_
  refine j_sld (i := v + 4) ⟨by omega, by omega, by omega⟩ dL_law_1307 ?_
  refine j_callViG l_L_127 ⟨Nat.le_of_ble_eq_true rfl, Nat.le_of_ble_eq_true rfl⟩ ⟨rfl, rfl⟩ ⟨Nat.le_of_ble_eq_true rfl, Nat.le_of_ble_eq_true rfl⟩ dL_law_1308 ob_0 (c_X8_sue N f (af_f I).1 (X.2 (v + 1).toNat).toInt (X.2 (v + 2).toNat).toInt (X.2 (v + 3).toNat).toInt (X.2 (v + 4).toNat).toInt (af_chands I) (af_cmills I) (af_cowner I) (af_ckin I) (af_ccases I) (af_cbenches I) (af_clines I) (af_cchecks I) (af_ccerr I) (af_clwhere I) (af_clin I) (af_clout I) (af_cgrade I) (af_cpapers I) (af_cfrom I) (af_cto I) (af_ckind I) (af_ctrade I) (af_7 I) (af_cact I)) rfl rfl (Nat.le_of_ble_eq_true rfl) (fun r1 N1 h8 => ?_)
  have k : rSm N N1 := kc_sue (af_f I).1 h8
  refine j_aload_n 2 dL_law_1311 rfl rfl ?_
  refine j_aload_n 0 dL_law_1312 rfl rfl ?_
  refine j_iload_n 3 dL_law_1313 rfl rfl ?_
  refine j_iconst dL_law_1314 (by decide) ?_
  refine j_iadd dL_law_1315 (by omega) ?_
  refine j_sld (i := v + 1) ⟨by omega, by omega, by omega⟩ dL_law_1316 ?_
  refine j_aload_n 0 dL_law_1317 rfl rfl ?_
  refine j_iload_n 3 dL_law_1318 rfl rfl ?_
  refine j_iconst dL_law_1319 (by decide) ?_
  refine j_iadd dL_law_1320 (by omega) ?_
  refine j_sld (i := v + 2) ⟨by omega, by omega, by omega⟩ dL_law_1321 ?_
  refine j_aload_n 0 dL_law_1322 rfl rfl ?_
  refine j_iload_n 3 dL_law_1323 rfl rfl ?_
  refine j_iconst dL_law_1324 (by decide) ?_
  refine j_iadd dL_law_1325 (by omega) ?_
  refine j_sld (i := v + 3) ⟨by omega, by omega, by omega⟩ dL_law_1326 ?_
  refine j_aload_n 0 dL_law_1327 rfl rfl ?_
  refine j_iload_n 3 dL_law_1328 rfl rfl ?_
  refine j_iconst dL_law_1329 (by decide) ?_
  refine j_iadd dL_law_1330 (by omega) ?_
  refine j_sld (i := v + 4) ⟨by omega, by omega, by omega⟩ dL_law_1331 ?_
  refine j_callViG l_L_130 ⟨Nat.le_of_ble_eq_true rfl, Nat.le_of_ble_eq_true rfl⟩ ⟨rfl, rfl⟩ ⟨Nat.le_of_ble_eq_true rfl, Nat.le_of_ble_eq_true rfl⟩ dL_law_1332 ob_74 (c_X9_sue N1 (X.2 (v + 1).toNat).toInt (X.2 (v + 2).toNat).toInt (X.2 (v + 3).toNat).toInt (X.2 (v + 4).toNat).toInt (af_rlines k I) (af_rowner k I) (af_rkin k I) (af_rbenches k I) (af_rcases k I) (af_rhands k I) (af_rmills k I) (af_rlhand k I) (af_rlday k I) (af_rlwhere k I) (af_rpapers k I) (af_rchecks k I) (af_rcerr k I) (af_rlin k I) (af_rlout k I) (af_rkind k I) (af_rgrade k I) (af_rtrade k I) (af_rpaper k I) (af_ract k I)) rfl rfl (Nat.le_of_ble_eq_true rfl) (fun r2 N2 h9 => ?_)
  have T := T_sue (af_f I).1 I h8 h9
  refine j_icmp_eq (tgt := 1565) dL_law_1335 (by decide) (fun q => ?_) (fun q => ?_)
  · exact K _ T.2
  · exact absurd T.1 q
set_option maxHeartbeats 4000000 in
set_option maxRecDepth 20000 in
theorem law_suit {X : jX} {v : Int} {N : jM} (hv : 0 ≤ v ∧ v + 6 ≤ (X.1 : Int)) (hL : X.1 ≤ 3072) (I : ∃ f g Z, jIn f g Z N) (K : ∀ O, (∃ f g Z, jIn f g Z O) → jG D_L_law X FL shJ 111 13628 QL 1565 [(0, jR (-2)), (1, jR 0), (2, jR 74), (3, jI v)] [] O) : jG D_L_law X FL shJ 111 13628 QL 1340 [(0, jR (-2)), (1, jR 0), (2, jR 74), (3, jI v)] [] N := by
  obtain ⟨f, g, Z, I⟩ := I
  refine j_aload_n 1 dL_law_1340 rfl rfl ?_
  refine j_aload_n 0 dL_law_1341 rfl rfl ?_
  refine j_iload_n 3 dL_law_1342 rfl rfl ?_
  refine j_iconst dL_law_1343 (by decide) ?_
  refine j_iadd dL_law_1344 (by omega) ?_
  refine j_sld (i := v + 1) ⟨by omega, by omega, by omega⟩ dL_law_1345 ?_
  refine j_aload_n 0 dL_law_1346 rfl rfl ?_
  refine j_iload_n 3 dL_law_1347 rfl rfl ?_
  refine j_iconst dL_law_1348 (by decide) ?_
  refine j_iadd dL_law_1349 (by omega) ?_
  refine j_sld (i := v + 2) ⟨by omega, by omega, by omega⟩ dL_law_1350 ?_
  refine j_callViG l_L_131 ⟨Nat.le_of_ble_eq_true rfl, Nat.le_of_ble_eq_true rfl⟩ ⟨rfl, rfl⟩ ⟨Nat.le_of_ble_eq_true rfl, Nat.le_of_ble_eq_true rfl⟩ dL_law_1351 ob_0 (c_X8_suit N (X.2 (v + 1).toNat).toInt (X.2 (v + 2).toNat).toInt (af_ccases I) (af_cbase I) (af_ccof I) (af_cstands I)) rfl rfl (Nat.le_of_ble_eq_true rfl) (fun r1 N1 h8 => ?_)
  have k : rSm N N1 := sC_r (af_f I).1 (sc_suit (af_f I).1 h8)
  refine j_aload_n 2 dL_law_1354 rfl rfl ?_
  refine j_aload_n 0 dL_law_1355 rfl rfl ?_
  refine j_iload_n 3 dL_law_1356 rfl rfl ?_
  refine j_iconst dL_law_1357 (by decide) ?_
  refine j_iadd dL_law_1358 (by omega) ?_
  refine j_sld (i := v + 1) ⟨by omega, by omega, by omega⟩ dL_law_1359 ?_
  refine j_aload_n 0 dL_law_1360 rfl rfl ?_
  refine j_iload_n 3 dL_law_1361 rfl rfl ?_
  refine j_iconst dL_law_1362 (by decide) ?_
  refine j_iadd dL_law_1363 (by omega) ?_
  refine j_sld (i := v + 2) ⟨by omega, by omega, by omega⟩ dL_law_1364 ?_
  refine j_callViG l_L_134 ⟨Nat.le_of_ble_eq_true rfl, Nat.le_of_ble_eq_true rfl⟩ ⟨rfl, rfl⟩ ⟨Nat.le_of_ble_eq_true rfl, Nat.le_of_ble_eq_true rfl⟩ dL_law_1365 ob_74 (c_X9_suit N1 (X.2 (v + 1).toNat).toInt (X.2 (v + 2).toNat).toInt (af_rcases k I) (af_rbase k I) (af_rcof k I) (af_rstands k I)) rfl rfl (Nat.le_of_ble_eq_true rfl) (fun r2 N2 h9 => ?_)
  have T := T_suit I h8 h9
  refine j_icmp_eq (tgt := 1565) dL_law_1368 (by decide) (fun q => ?_) (fun q => ?_)
  · exact K _ T.2
  · exact absurd T.1 q
set_option maxHeartbeats 4000000 in
set_option maxRecDepth 20000 in
theorem law_appeal {X : jX} {v : Int} {N : jM} (hv : 0 ≤ v ∧ v + 6 ≤ (X.1 : Int)) (hL : X.1 ≤ 3072) (I : ∃ f g Z, jIn f g Z N) (K : ∀ O, (∃ f g Z, jIn f g Z O) → jG D_L_law X FL shJ 111 13628 QL 1565 [(0, jR (-2)), (1, jR 0), (2, jR 74), (3, jI v)] [] O) : jG D_L_law X FL shJ 111 13628 QL 1373 [(0, jR (-2)), (1, jR 0), (2, jR 74), (3, jI v)] [] N := by
  obtain ⟨f, g, Z, I⟩ := I
  refine j_aload_n 1 dL_law_1373 rfl rfl ?_
  refine j_aload_n 0 dL_law_1374 rfl rfl ?_
  refine j_iload_n 3 dL_law_1375 rfl rfl ?_
  refine j_iconst dL_law_1376 (by decide) ?_
  refine j_iadd dL_law_1377 (by omega) ?_
  refine j_sld (i := v + 1) ⟨by omega, by omega, by omega⟩ dL_law_1378 ?_
  refine j_callViG l_L_135 ⟨Nat.le_of_ble_eq_true rfl, Nat.le_of_ble_eq_true rfl⟩ ⟨rfl, rfl⟩ ⟨Nat.le_of_ble_eq_true rfl, Nat.le_of_ble_eq_true rfl⟩ dL_law_1379 ob_0 (c_X8_appeal N (X.2 (v + 1).toNat).toInt (af_ccases I)) rfl rfl (Nat.le_of_ble_eq_true rfl) (fun r1 N1 h8 => ?_)
  have k : rSm N N1 := kc_appeal h8
  refine j_aload_n 2 dL_law_1382 rfl rfl ?_
  refine j_aload_n 0 dL_law_1383 rfl rfl ?_
  refine j_iload_n 3 dL_law_1384 rfl rfl ?_
  refine j_iconst dL_law_1385 (by decide) ?_
  refine j_iadd dL_law_1386 (by omega) ?_
  refine j_sld (i := v + 1) ⟨by omega, by omega, by omega⟩ dL_law_1387 ?_
  refine j_callViG l_L_138 ⟨Nat.le_of_ble_eq_true rfl, Nat.le_of_ble_eq_true rfl⟩ ⟨rfl, rfl⟩ ⟨Nat.le_of_ble_eq_true rfl, Nat.le_of_ble_eq_true rfl⟩ dL_law_1388 ob_74 (c_X9_appeal N1 (X.2 (v + 1).toNat).toInt (af_rcases k I)) rfl rfl (Nat.le_of_ble_eq_true rfl) (fun r2 N2 h9 => ?_)
  have T := T_appeal I h8 h9
  refine j_icmp_eq (tgt := 1565) dL_law_1391 (by decide) (fun q => ?_) (fun q => ?_)
  · exact K _ T.2
  · exact absurd T.1 q
set_option maxHeartbeats 4000000 in
set_option maxRecDepth 20000 in
theorem law_fines {X : jX} {v : Int} {N : jM} (hv : 0 ≤ v ∧ v + 6 ≤ (X.1 : Int)) (hL : X.1 ≤ 3072) (I : ∃ f g Z, jIn f g Z N) (K : ∀ O, (∃ f g Z, jIn f g Z O) → jG D_L_law X FL shJ 111 13628 QL 1565 [(0, jR (-2)), (1, jR 0), (2, jR 74), (3, jI v)] [] O) : jG D_L_law X FL shJ 111 13628 QL 1396 [(0, jR (-2)), (1, jR 0), (2, jR 74), (3, jI v)] [] N := by
  obtain ⟨f, g, Z, I⟩ := I
  refine j_aload_n 1 dL_law_1396 rfl rfl ?_
  refine j_aload_n 0 dL_law_1397 rfl rfl ?_
  refine j_iload_n 3 dL_law_1398 rfl rfl ?_
  refine j_iconst dL_law_1399 (by decide) ?_
  refine j_iadd dL_law_1400 (by omega) ?_
  refine j_sld (i := v + 1) ⟨by omega, by omega, by omega⟩ dL_law_1401 ?_
  refine j_callViG l_L_139 ⟨Nat.le_of_ble_eq_true rfl, Nat.le_of_ble_eq_true rfl⟩ ⟨rfl, rfl⟩ ⟨Nat.le_of_ble_eq_true rfl, Nat.le_of_ble_eq_true rfl⟩ dL_law_1402 ob_0 (c_X8_fines N (X.2 (v + 1).toNat).toInt (af_ccases I) (af_cbase I) (af_ccof I) (af_cstands I)) rfl rfl (Nat.le_of_ble_eq_true rfl) (fun r1 N1 h8 => ?_)
  have k : rSm N N1 := sC_r (af_f I).1 (sc_fines (af_f I).1 h8)
  refine j_aload_n 2 dL_law_1405 rfl rfl ?_
  refine j_aload_n 0 dL_law_1406 rfl rfl ?_
  refine j_iload_n 3 dL_law_1407 rfl rfl ?_
  refine j_iconst dL_law_1408 (by decide) ?_
  refine j_iadd dL_law_1409 (by omega) ?_
  refine j_sld (i := v + 1) ⟨by omega, by omega, by omega⟩ dL_law_1410 ?_
  refine j_callViG l_L_142 ⟨Nat.le_of_ble_eq_true rfl, Nat.le_of_ble_eq_true rfl⟩ ⟨rfl, rfl⟩ ⟨Nat.le_of_ble_eq_true rfl, Nat.le_of_ble_eq_true rfl⟩ dL_law_1411 ob_74 (c_X9_fines N1 (X.2 (v + 1).toNat).toInt (af_rcases k I) (af_rmills k I) (af_rbase k I) (af_rcof k I) (af_rstands k I)) rfl rfl (Nat.le_of_ble_eq_true rfl) (fun r2 N2 h9 => ?_)
  have T := T_fines I h8 h9
  refine j_icmp_eq (tgt := 1565) dL_law_1414 (by decide) (fun q => ?_) (fun q => ?_)
  · exact K _ T.2
  · exact absurd T.1 q
set_option maxHeartbeats 4000000 in
set_option maxRecDepth 20000 in
theorem law_road {X : jX} {v : Int} {N : jM} (hv : 0 ≤ v ∧ v + 6 ≤ (X.1 : Int)) (hL : X.1 ≤ 3072) (I : ∃ f g Z, jIn f g Z N) (K : ∀ O, (∃ f g Z, jIn f g Z O) → jG D_L_law X FL shJ 111 13628 QL 1565 [(0, jR (-2)), (1, jR 0), (2, jR 74), (3, jI v)] [] O) : jG D_L_law X FL shJ 111 13628 QL 1419 [(0, jR (-2)), (1, jR 0), (2, jR 74), (3, jI v)] [] N := by
  obtain ⟨f, g, Z, I⟩ := I
  refine j_aload_n 1 dL_law_1419 rfl rfl ?_
  refine j_aload_n 0 dL_law_1420 rfl rfl ?_
  refine j_iload_n 3 dL_law_1421 rfl rfl ?_
  refine j_iconst dL_law_1422 (by decide) ?_
  refine j_iadd dL_law_1423 (by omega) ?_
  refine j_sld (i := v + 1) ⟨by omega, by omega, by omega⟩ dL_law_1424 ?_
  refine j_aload_n 0 dL_law_1425 rfl rfl ?_
  refine j_iload_n 3 dL_law_1426 rfl rfl ?_
  refine j_iconst dL_law_1427 (by decide) ?_
  refine j_iadd dL_law_1428 (by omega) ?_
  refine j_sld (i := v + 2) ⟨by omega, by omega, by omega⟩ dL_law_1429 ?_
  refine j_aload_n 0 dL_law_1430 rfl rfl ?_
  refine j_iload_n 3 dL_law_1431 rfl rfl ?_
  refine j_iconst dL_law_1432 (by decide) ?_
  refine j_iadd dL_law_1433 (by omega) ?_
  refine j_sld (i := v + 3) ⟨by omega, by omega, by omega⟩ dL_law_1434 ?_
  refine j_callViG l_L_143 ⟨Nat.le_of_ble_eq_true rfl, Nat.le_of_ble_eq_true rfl⟩ ⟨rfl, rfl⟩ ⟨Nat.le_of_ble_eq_true rfl, Nat.le_of_ble_eq_true rfl⟩ dL_law_1435 ob_0 (c_X8_road N (X.2 (v + 1).toNat).toInt (X.2 (v + 2).toNat).toInt (X.2 (v + 3).toNat).toInt) rfl rfl (Nat.le_of_ble_eq_true rfl) (fun r1 N1 h8 => ?_)
  have k : rSm N N1 := kc_road h8
  refine j_aload_n 2 dL_law_1438 rfl rfl ?_
  refine j_aload_n 0 dL_law_1439 rfl rfl ?_
  refine j_iload_n 3 dL_law_1440 rfl rfl ?_
  refine j_iconst dL_law_1441 (by decide) ?_
  refine j_iadd dL_law_1442 (by omega) ?_
  refine j_sld (i := v + 1) ⟨by omega, by omega, by omega⟩ dL_law_1443 ?_
  refine j_aload_n 0 dL_law_1444 rfl rfl ?_
  refine j_iload_n 3 dL_law_1445 rfl rfl ?_
  refine j_iconst dL_law_1446 (by decide) ?_
  refine j_iadd dL_law_1447 (by omega) ?_
  refine j_sld (i := v + 2) ⟨by omega, by omega, by omega⟩ dL_law_1448 ?_
  refine j_aload_n 0 dL_law_1449 rfl rfl ?_
  refine j_iload_n 3 dL_law_1450 rfl rfl ?_
  refine j_iconst dL_law_1451 (by decide) ?_
  refine j_iadd dL_law_1452 (by omega) ?_
  refine j_sld (i := v + 3) ⟨by omega, by omega, by omega⟩ dL_law_1453 ?_
  refine j_callViG l_L_146 ⟨Nat.le_of_ble_eq_true rfl, Nat.le_of_ble_eq_true rfl⟩ ⟨rfl, rfl⟩ ⟨Nat.le_of_ble_eq_true rfl, Nat.le_of_ble_eq_true rfl⟩ dL_law_1454 ob_74 (c_X9_road N1 (X.2 (v + 1).toNat).toInt (X.2 (v + 2).toNat).toInt (X.2 (v + 3).toNat).toInt) rfl rfl (Nat.le_of_ble_eq_true rfl) (fun r2 N2 h9 => ?_)
  have T := T_road I h8 h9
  refine j_icmp_eq (tgt := 1565) dL_law_1457 (by decide) (fun q => ?_) (fun q => ?_)
  · exact K _ T.2
  · exact absurd T.1 q
set_option maxHeartbeats 4000000 in
set_option maxRecDepth 20000 in
theorem law_doubt {X : jX} {v : Int} {N : jM} (hv : 0 ≤ v ∧ v + 6 ≤ (X.1 : Int)) (hL : X.1 ≤ 3072) (I : ∃ f g Z, jIn f g Z N) (K : ∀ O, (∃ f g Z, jIn f g Z O) → jG D_L_law X FL shJ 111 13628 QL 1565 [(0, jR (-2)), (1, jR 0), (2, jR 74), (3, jI v)] [] O) : jG D_L_law X FL shJ 111 13628 QL 1462 [(0, jR (-2)), (1, jR 0), (2, jR 74), (3, jI v)] [] N := by
  obtain ⟨f, g, Z, I⟩ := I
  refine j_aload_n 1 dL_law_1462 rfl rfl ?_
  refine j_aload_n 0 dL_law_1463 rfl rfl ?_
  refine j_iload_n 3 dL_law_1464 rfl rfl ?_
  refine j_iconst dL_law_1465 (by decide) ?_
  refine j_iadd dL_law_1466 (by omega) ?_
  refine j_sld (i := v + 1) ⟨by omega, by omega, by omega⟩ dL_law_1467 ?_
  refine j_aload_n 0 dL_law_1468 rfl rfl ?_
  refine j_iload_n 3 dL_law_1469 rfl rfl ?_
  refine j_iconst dL_law_1470 (by decide) ?_
  refine j_iadd dL_law_1471 (by omega) ?_
  refine j_sld (i := v + 2) ⟨by omega, by omega, by omega⟩ dL_law_1472 ?_
  refine j_callViG l_L_147 ⟨Nat.le_of_ble_eq_true rfl, Nat.le_of_ble_eq_true rfl⟩ ⟨rfl, rfl⟩ ⟨Nat.le_of_ble_eq_true rfl, Nat.le_of_ble_eq_true rfl⟩ dL_law_1473 ob_0 (c_X8_doubt N (X.2 (v + 1).toNat).toInt (X.2 (v + 2).toNat).toInt (af_cmills I)) rfl rfl (Nat.le_of_ble_eq_true rfl) (fun r1 N1 h8 => ?_)
  have k : rSm N N1 := kc_doubt h8
  refine j_aload_n 2 dL_law_1476 rfl rfl ?_
  refine j_aload_n 0 dL_law_1477 rfl rfl ?_
  refine j_iload_n 3 dL_law_1478 rfl rfl ?_
  refine j_iconst dL_law_1479 (by decide) ?_
  refine j_iadd dL_law_1480 (by omega) ?_
  refine j_sld (i := v + 1) ⟨by omega, by omega, by omega⟩ dL_law_1481 ?_
  refine j_aload_n 0 dL_law_1482 rfl rfl ?_
  refine j_iload_n 3 dL_law_1483 rfl rfl ?_
  refine j_iconst dL_law_1484 (by decide) ?_
  refine j_iadd dL_law_1485 (by omega) ?_
  refine j_sld (i := v + 2) ⟨by omega, by omega, by omega⟩ dL_law_1486 ?_
  refine j_callViG l_L_150 ⟨Nat.le_of_ble_eq_true rfl, Nat.le_of_ble_eq_true rfl⟩ ⟨rfl, rfl⟩ ⟨Nat.le_of_ble_eq_true rfl, Nat.le_of_ble_eq_true rfl⟩ dL_law_1487 ob_74 (c_X9_doubt N1 (X.2 (v + 1).toNat).toInt (X.2 (v + 2).toNat).toInt (af_rmills k I)) rfl rfl (Nat.le_of_ble_eq_true rfl) (fun r2 N2 h9 => ?_)
  have T := T_doubt I h8 h9
  refine j_icmp_eq (tgt := 1565) dL_law_1490 (by decide) (fun q => ?_) (fun q => ?_)
  · exact K _ T.2
  · exact absurd T.1 q
set_option maxHeartbeats 4000000 in
set_option maxRecDepth 20000 in
theorem law_way {X : jX} {v : Int} {N : jM} (hv : 0 ≤ v ∧ v + 6 ≤ (X.1 : Int)) (hL : X.1 ≤ 3072) (I : ∃ f g Z, jIn f g Z N) (K : ∀ O, (∃ f g Z, jIn f g Z O) → jG D_L_law X FL shJ 111 13628 QL 1565 [(0, jR (-2)), (1, jR 0), (2, jR 74), (3, jI v)] [] O) : jG D_L_law X FL shJ 111 13628 QL 1495 [(0, jR (-2)), (1, jR 0), (2, jR 74), (3, jI v)] [] N := by
  obtain ⟨f, g, Z, I⟩ := I
  refine j_aload_n 1 dL_law_1495 rfl rfl ?_
  refine j_aload_n 0 dL_law_1496 rfl rfl ?_
  refine j_iload_n 3 dL_law_1497 rfl rfl ?_
  refine j_iconst dL_law_1498 (by decide) ?_
  refine j_iadd dL_law_1499 (by omega) ?_
  refine j_sld (i := v + 1) ⟨by omega, by omega, by omega⟩ dL_law_1500 ?_
  refine j_aload_n 0 dL_law_1501 rfl rfl ?_
  refine j_iload_n 3 dL_law_1502 rfl rfl ?_
  refine j_iconst dL_law_1503 (by decide) ?_
  refine j_iadd dL_law_1504 (by omega) ?_
  refine j_sld (i := v + 2) ⟨by omega, by omega, by omega⟩ dL_law_1505 ?_
  refine j_callViG l_L_151 ⟨Nat.le_of_ble_eq_true rfl, Nat.le_of_ble_eq_true rfl⟩ ⟨rfl, rfl⟩ ⟨Nat.le_of_ble_eq_true rfl, Nat.le_of_ble_eq_true rfl⟩ dL_law_1506 ob_0 (c_X8_way N (X.2 (v + 1).toNat).toInt (X.2 (v + 2).toNat).toInt (af_cmills I) (af_ctown I) (af_chours I) (af_cdoubt I)) rfl rfl (Nat.le_of_ble_eq_true rfl) (fun r1 N1 h8 => ?_)
  have k : rSm N N1 := sC_r (af_f I).1 (sc_way (af_f I).1 h8)
  refine j_aload_n 2 dL_law_1509 rfl rfl ?_
  refine j_aload_n 0 dL_law_1510 rfl rfl ?_
  refine j_iload_n 3 dL_law_1511 rfl rfl ?_
  refine j_iconst dL_law_1512 (by decide) ?_
  refine j_iadd dL_law_1513 (by omega) ?_
  refine j_sld (i := v + 1) ⟨by omega, by omega, by omega⟩ dL_law_1514 ?_
  refine j_aload_n 0 dL_law_1515 rfl rfl ?_
  refine j_iload_n 3 dL_law_1516 rfl rfl ?_
  refine j_iconst dL_law_1517 (by decide) ?_
  refine j_iadd dL_law_1518 (by omega) ?_
  refine j_sld (i := v + 2) ⟨by omega, by omega, by omega⟩ dL_law_1519 ?_
  refine j_callViG l_L_154 ⟨Nat.le_of_ble_eq_true rfl, Nat.le_of_ble_eq_true rfl⟩ ⟨rfl, rfl⟩ ⟨Nat.le_of_ble_eq_true rfl, Nat.le_of_ble_eq_true rfl⟩ dL_law_1520 ob_74 (c_X9_way N1 (X.2 (v + 1).toNat).toInt (X.2 (v + 2).toNat).toInt (af_rmills k I) (af_rtown k I) (af_rroad k I) (af_rdoubt k I)) rfl rfl (Nat.le_of_ble_eq_true rfl) (fun r2 N2 h9 => ?_)
  have T := T_way I h8 h9
  refine j_icmp_eq (tgt := 1565) dL_law_1523 (by decide) (fun q => ?_) (fun q => ?_)
  · exact K _ T.2
  · exact absurd T.1 q
set_option maxHeartbeats 4000000 in
set_option maxRecDepth 20000 in
theorem law_count {X : jX} {v : Int} {N : jM} (hv : 0 ≤ v ∧ v + 6 ≤ (X.1 : Int)) (hL : X.1 ≤ 3072) (I : ∃ f g Z, jIn f g Z N) (K : ∀ O, (∃ f g Z, jIn f g Z O) → jG D_L_law X FL shJ 111 13628 QL 1565 [(0, jR (-2)), (1, jR 0), (2, jR 74), (3, jI v)] [] O) : jG D_L_law X FL shJ 111 13628 QL 1528 [(0, jR (-2)), (1, jR 0), (2, jR 74), (3, jI v)] [] N := by
  obtain ⟨f, g, Z, I⟩ := I
  refine j_aload_n 1 dL_law_1528 rfl rfl ?_
  refine j_aload_n 0 dL_law_1529 rfl rfl ?_
  refine j_iload_n 3 dL_law_1530 rfl rfl ?_
  refine j_iconst dL_law_1531 (by decide) ?_
  refine j_iadd dL_law_1532 (by omega) ?_
  refine j_sld (i := v + 1) ⟨by omega, by omega, by omega⟩ dL_law_1533 ?_
  refine j_callViG l_L_155 ⟨Nat.le_of_ble_eq_true rfl, Nat.le_of_ble_eq_true rfl⟩ ⟨rfl, rfl⟩ ⟨Nat.le_of_ble_eq_true rfl, Nat.le_of_ble_eq_true rfl⟩ dL_law_1534 ob_0 (c_X8_count N f (af_f I).1 (X.2 (v + 1).toNat).toInt (af_ccases I) (af_7 I)) rfl rfl (Nat.le_of_ble_eq_true rfl) (fun r1 N1 h8 => ?_)
  have k : rSm N N1 := sC_r (af_f I).1 (sc_count (af_f I).1 (af_f I).1 h8)
  refine j_aload_n 2 dL_law_1537 rfl rfl ?_
  refine j_aload_n 0 dL_law_1538 rfl rfl ?_
  refine j_iload_n 3 dL_law_1539 rfl rfl ?_
  refine j_iconst dL_law_1540 (by decide) ?_
  refine j_iadd dL_law_1541 (by omega) ?_
  refine j_sld (i := v + 1) ⟨by omega, by omega, by omega⟩ dL_law_1542 ?_
  refine j_callViG l_L_158 ⟨Nat.le_of_ble_eq_true rfl, Nat.le_of_ble_eq_true rfl⟩ ⟨rfl, rfl⟩ ⟨Nat.le_of_ble_eq_true rfl, Nat.le_of_ble_eq_true rfl⟩ dL_law_1543 ob_74 (c_X9_count N1 (X.2 (v + 1).toNat).toInt (af_rcases k I)) rfl rfl (Nat.le_of_ble_eq_true rfl) (fun r2 N2 h9 => ?_)
  have T := T_count (af_f I).1 I h8 h9
  refine j_icmp_eq (tgt := 1565) dL_law_1546 (by decide) (fun q => ?_) (fun q => ?_)
  · exact K _ T.2
  · exact absurd T.1 q
set_option maxHeartbeats 4000000 in
set_option maxRecDepth 20000 in
theorem law_trace {X : jX} {v : Int} {N : jM} (hv : 0 ≤ v ∧ v + 6 ≤ (X.1 : Int)) (hL : X.1 ≤ 3072) (I : ∃ f g Z, jIn f g Z N) (K : ∀ O, (∃ f g Z, jIn f g Z O) → jG D_L_law X FL shJ 111 13628 QL 1565 [(0, jR (-2)), (1, jR 0), (2, jR 74), (3, jI v)] [] O) : jG D_L_law X FL shJ 111 13628 QL 1551 [(0, jR (-2)), (1, jR 0), (2, jR 74), (3, jI v)] [] N := by
  obtain ⟨f, g, Z, I⟩ := I
  refine j_aload_n 1 dL_law_1551 rfl rfl ?_
  refine j_callVlG l_L_159 ⟨Nat.le_of_ble_eq_true rfl, Nat.le_of_ble_eq_true rfl⟩ ⟨rfl, rfl⟩ ⟨Nat.le_of_ble_eq_true rfl, Nat.le_of_ble_eq_true rfl⟩ dL_law_1552 ob_0 (c_X8_trace N) rfl rfl (Nat.le_of_ble_eq_true rfl) (fun r1 N1 h8 => ?_)
  have k : rSm N N1 := sC_r (af_f I).1 (sc_trace (af_f I).1 h8)
  refine j_aload_n 2 dL_law_1555 rfl rfl ?_
  refine j_callVlG l_L_163 ⟨Nat.le_of_ble_eq_true rfl, Nat.le_of_ble_eq_true rfl⟩ ⟨rfl, rfl⟩ ⟨Nat.le_of_ble_eq_true rfl, Nat.le_of_ble_eq_true rfl⟩ dL_law_1556 ob_74 (c_X9_trace N1) rfl rfl (Nat.le_of_ble_eq_true rfl) (fun r2 N2 h9 => ?_)
  have T := T_trace I h8 h9
  refine j_lcmpE dL_law_1559 ?_
  refine j_eq (show _ = (0 : Int) from by rw [T.1, lg_cmp_rf]; rfl) ?_
  refine j_if_eq (tgt := 1565) dL_law_1560 (by decide) (fun q => ?_) (fun q => ?_)
  · exact K _ T.2
  · exact absurd rfl q
